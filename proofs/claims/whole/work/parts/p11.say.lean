/-! PURE: say, day, undo, keep, on -/
/-- one deed more in the reference -/
def MSt (F : Fam) (dd : Nat → Int32) (n : Nat) (v : Int32) (m m' : Mm) : Prop := m'.1 1 0 = nI (n + 1) ∧ (∀ t, 11 ≤ t → m'.1 1 t = if 11 + 10 * n ≤ t ∧ t < 11 + 10 * n + 10 then m.1 1 (1 + (t - (11 + 10 * n))) else m.1 1 t) ∧ DynM 0 (ena F (rep F dd n) v) (m'.1 1) ∧ (∀ p, p ≠ 1 → m'.1 p = m.1 p) ∧ m'.2 = m.2
section PS
variable {F : Fam} {c m : Mm} {n : Nat} {dd : Nat → Int32}
theorem m_past (hm : FamM F m) (hB : BlockM F dd n 0 (m.1 1)) (hn : n < 40) : ∃ m1, fX8_keepPast m = some m1 ∧ FamM F m1 ∧ DynM 0 (rep F dd n) (m1.1 1) ∧ m1.1 1 0 = nI (n + 1) ∧ (∀ t, 11 ≤ t → m1.1 1 t = if 11 + 10 * n ≤ t ∧ t < 11 + 10 * n + 10 then m.1 1 (1 + (t - (11 + 10 * n))) else m.1 1 t) ∧ (∀ p, p ≠ 1 → m1.1 p = m.1 p) ∧ m1.2 = m.2 := by
  have h1 : ∀ p, p ≠ 1 → (sA (sF m 1 (fun t => if 11 + 10 * n ≤ t ∧ t < 11 + 10 * n + 10 then m.1 1 (1 + (t - (11 + 10 * n))) else m.1 1 t)) 1 0 (nI (n + 1))).1 p = m.1 p := fun p hp => by rw [sA_ne hp, sF_ne hp]
  refine ⟨_, m_keepPast hB.1 hn, ?_, hB.2.1.cg (fun t ht => ?_), ?_, fun t ht => ?_, h1, rfl⟩
  · obtain ⟨g1, g2, g3, g4, g5⟩ := hm
    refine ⟨by rw [h1 0 (by decide)]; exact g1, by rw [h1 0 (by decide)]; exact g2, by rw [h1 0 (by decide)]; exact g3, fun x hx => by rw [h1 2 (by decide)]; exact g4 x hx, fun i hi => ?_⟩
    rw [h1 3 (by decide), h1 4 (by decide), h1 5 (by decide)]
    exact g5 i hi
  · rw [sA_eq, upd_ne (by omega), sF_eq, if_neg (by omega)]
  · rw [sA_eq, upd_eq]
  · rw [sA_eq, upd_ne (by omega), sF_eq]
theorem m_daySt (hF : FamOk F) (ho : okD F dd n) (hm : FamM F m) (hB : BlockM F dd n 0 (m.1 1)) (hn : n < 40) : ∃ m', fX8_doDay m = some m' ∧ MSt F dd n (-1) m m' := by
  unfold fX8_doDay fX8_doDay_E
  obtain ⟨m1, a1, a2, a3, a4, a5, a6, a7⟩ := m_past hm hB hn
  rw [bo_v a1]
  simp only [nm]
  rw [bo_id]
  have hb := rep_Bd hF ho n (Nat.le_refl _)
  generalize hd : rep F dd n = d at a3 hb
  have e1 : m1.1 1 1 = nI (dD d) := by have := a3.1; exact this
  have hd1 : DynM 0 (dS d, dT d, dV d, dD d + 1, dN d) ((sA m1 1 1 (m1.1 1 1 + 1)).1 1) := by
    obtain ⟨g1, g2, g3, g4, g5⟩ := a3
    refine ⟨?_, ?_, ?_, ?_, fun i hi => ?_⟩
    · rw [sA_eq, upd_eq, e1, nI_1]; rfl
    · rw [sA_eq, upd_ne (by omega)]; exact g2
    · rw [sA_eq, upd_ne (by omega)]; exact g3
    · rw [sA_eq, upd_ne (by omega)]; exact g4
    · rw [sA_eq, upd_ne (by omega)]; exact g5 i hi
  have hb1 : Bd (n + 1) (dS d, dT d, dV d, dD d + 1, dN d) := by
    obtain ⟨b1, b2, b3, b4, b5⟩ := hb
    exact ⟨by show dS d ≤ _; omega, b2, b3, by show dD d + 1 ≤ _; omega, fun i => by have := b5 i; show dN d i ≤ _; omega⟩
  obtain ⟨m', c1, c2, c3⟩ := m_eases (b := 0) hd1 hb1 (by omega) (by decide)
  refine ⟨m', c1, ?_, fun t ht => ?_, ?_, fun p hp => ?_, ?_⟩
  · rw [c3.2.1 0 (by omega), sA_eq, upd_ne (by decide)]; exact a4
  · rw [c3.2.1 t (by omega), sA_eq, upd_ne (by omega)]; exact a5 t ht
  · rw [hd, ena_day]; exact c2
  · rw [c3.1 p hp, sA_ne hp, a6 p hp]
  · exact c3.2.2.trans a7
theorem m_saySt (hF : FamOk F) (ho : okD F dd n) (hm : FamM F m) (hB : BlockM F dd n 0 (m.1 1)) (hn : n < 40) {x i : Nat} (hx : x < fP F) (hi : i < fQ F) : ∃ m1 m', fX8_keepPast m = some m1 ∧ fX8_says 0 (nI x) (nI i) m1 = some m' ∧ MSt F dd n (nI (6 * x + i)) m m' := by
  obtain ⟨m1, a1, a2, a3, a4, a5, a6, a7⟩ := m_past hm hB hn
  have hb := rep_Bd hF ho n (Nat.le_refl _)
  have hq := hF.q
  have hp := hF.p
  obtain ⟨m', c1, c2, c3⟩ := m_says (b := 0) hF a2 a3 hb (by omega) (by decide) hx hi
  refine ⟨m1, m', a1, c1, ?_, fun t ht => ?_, ?_, fun p hp => ?_, c3.2.2.trans a7⟩
  · rw [c3.2.1 0 (by omega)]; exact a4
  · rw [c3.2.1 t (by omega)]; exact a5 t ht
  · rw [ena_say F _ (by omega) (by omega)]; exact c2
  · rw [c3.1 p hp, a6 p hp]
end PS
/-- what holds of the parts, taken apart -/
theorem Rel.deed {c m c' m' : Mm} {F : Fam} {n : Nat} {v : Int32} (h : Rel c m) (hF : FamOk F) (hm : FamM F m) (hB : BlockM F (c.1 29) n 0 (m.1 1)) (hk : RelKept F c m) (hn : n < 40)
    (a1 : c'.1 29 = upd (c.1 29) n v) (a2 : c'.1 23 11 = nI (n + 1)) (a3 : DynC (rep F (upd (c.1 29) n v) (n + 1)) c') (a4 : okD F (upd (c.1 29) n v) (n + 1)) (a5 : FamC F c') (a6 : ∀ p, p ≠ 23 → p ≠ 28 → p ≠ 29 → c'.1 p = c.1 p) (a7 : c'.2 = c.2) (hs : MSt F (c.1 29) n v m m') : Rel c' m' := by
  obtain ⟨s1, s2, s3, s4, s5⟩ := hs
  obtain ⟨-, r2, r3, r4⟩ := h
  refine ⟨⟨F, n + 1, hF, a5, ?_, ⟨by rw [a1]; exact a4, a2, by rw [a1]; exact a3, by rw [a1]; exact hB.step hn s1 (fun t h1 h2 => s2 t h1) s3⟩, hk.cg (a6 19 (by decide) (by decide) (by decide)) (fun k hk => a6 _ (by omega) (by omega) (by omega)) (fun t h1 h2 => by rw [s2 t (by omega), if_neg (by omega)])⟩, r2.cg (fun p h1 h2 => a6 p (by omega) (by omega) (by omega)) (s4 6 (by decide)) (s4 7 (by decide)), r3.cg (fun p h1 h2 => a6 p (by omega) (by omega) (by omega)) (s4 8 (by decide)) (s4 9 (by decide)), r4.cg (by rw [a6 0 (by decide) (by decide) (by decide)]) (by rw [a6 0 (by decide) (by decide) (by decide)]) (by rw [a7]) (a6 43 (by decide) (by decide) (by decide)) (by rw [s4 0 (by decide)]) (by rw [s4 0 (by decide)]) (by rw [s5]) (s4 10 (by decide))⟩
  obtain ⟨g1, g2, g3, g4, g5⟩ := hm
  refine ⟨by rw [s4 0 (by decide)]; exact g1, by rw [s4 0 (by decide)]; exact g2, by rw [s4 0 (by decide)]; exact g3, fun x hx => by rw [s4 2 (by decide)]; exact g4 x hx, fun i hi => ?_⟩
  rw [s4 3 (by decide), s4 4 (by decide), s4 5 (by decide)]
  exact g5 i hi
theorem ne40 {n : Nat} (hn : n ≤ 40) : (nI n = 40) ↔ n = 40 := by
  have e : (40 : Int32) = nI 40 := rfl
  rw [e, nI_eq (by omega) (by decide)]
theorem lt40 {n : Nat} (hn : n ≤ 40) : (nI n < 40) ↔ n < 40 := by
  have e : (40 : Int32) = nI 40 := rfl
  rw [e, nI_ltI (by omega) (by decide)]
theorem sim_say {c m : Mm} (h : Rel c m) (x1 x2 : Int32) : Sim (fX7_say x1 x2 c) (fX8_say x1 x2 m) := by
  unfold fX7_say fX7_say_E fX8_say fX8_say_E
  obtain ⟨F, n, hF, hc, hm, ⟨ho, hz, hd, hB⟩, hk⟩ := id h.1
  have hn := ho.1
  have hb := rep_Bd hF ho n (Nat.le_refl _)
  have hq := hF.q
  have hp := hF.p
  rw [bo_v (c_isOne hF hc x1), bo_v (m_isOne hF hm x1), if_10, if_10, bo_v (c_isSaying hF hc x2), bo_v (m_isSaying hF hm x2), if_10, if_10, bo_v (c_isOver hd hb), bo_v (m_isOver hB.2.1 hb), if_01, if_01, hz, hB.1]
  by_cases h1 : inb x1 (fP F) = true
  · rw [if_pos h1, if_pos h1]
    by_cases h2 : inb x2 (fQ F) = true
    · rw [if_pos h2, if_pos h2]
      obtain ⟨x, hx, -, rfl⟩ := inb_ex h1
      obtain ⟨i, hi, -, rfl⟩ := inb_ex h2
      by_cases hv : dV (rep F (c.1 29) n) = 0
      · rw [if_pos hv, if_pos hv]
        by_cases hl : n = 40
        · rw [if_neg (by rw [lt40 hn]; omega), if_pos (by rw [ne40 hn]; exact hl)]
          exact Sim.ret h
        · rw [if_pos (by rw [lt40 hn]; omega), if_neg (by rw [ne40 hn]; exact hl)]
          have e6 : (6 : Int32) = nI 6 := rfl
          have ed : fX2_deedOf (nI x) (nI i) = some (nI (6 * x + i)) := by
            unfold fX2_deedOf fX2_deedOf_E
            rw [e6, pk_mul, nI_add, Nat.mul_comm]
          obtain ⟨c', a0, a1, a2, a3, a4, a5, a6, a7⟩ := c_record hF hc ho hz hd (by omega) (v := nI (6 * x + i)) (Or.inr ⟨x, i, hx, hi, rfl, hv⟩)
          obtain ⟨m1, m', b0, b1, b2⟩ := m_saySt hF ho hm hB (by omega) hx hi
          rw [bo_v ed, bo_v a0, bo_v b0, bo_v b1]
          have er := h.deed hF hm hB hk (by omega) a1 a2 a3 a4 a5 a6 a7 b2
          have e1 : c'.1 23 7 = m'.1 1 2 := by
            rw [a3.1]
            show nI (dS (ena F (rep F (upd (c.1 29) n _) n) (upd (c.1 29) n _ n))) = _
            rw [upd_eq, rep_cong (ee := c.1 29) (fun j hj => upd_ne (by omega))]
            exact b2.2.2.1.2.1.symm
          rw [e1]
          exact Sim.ret er
      · rw [if_neg hv, if_neg hv]
        exact Sim.ret h
    · rw [if_neg h2, if_neg h2]
      exact Sim.ret h
  · rw [if_neg h1, if_neg h1]
    exact Sim.ret h
theorem q0 {F : Fam} (hF : FamOk F) {m : Mm} (hm : FamM F m) : (m.1 0 3 = 0) ↔ fQ F = 0 := by
  have hq := hF.q
  rw [hm.2.1, nI_lit0, nI_eq (by omega) (by decide)]
theorem sim_day {c m : Mm} (h : Rel c m) : Sim (fX7_day c) (fX8_day m) := by
  unfold fX7_day fX7_day_E fX8_day fX8_day_E
  obtain ⟨F, n, hF, hc, hm, ⟨ho, hz, hd, hB⟩, hk⟩ := id h.1
  have hn := ho.1
  rw [bo_v (c_isEmpty hF hc), if_10, hz, hB.1]
  by_cases he : fQ F = 0
  · rw [if_pos he, if_pos ((q0 hF hm).mpr he)]
    exact Sim.ret h
  · rw [if_neg he, if_neg (fun q => he ((q0 hF hm).mp q))]
    by_cases hl : n = 40
    · rw [if_neg (by rw [lt40 hn]; omega), if_pos (by rw [ne40 hn]; exact hl)]
      exact Sim.ret h
    · rw [if_pos (by rw [lt40 hn]; omega), if_neg (by rw [ne40 hn]; exact hl)]
      obtain ⟨c', a0, a1, a2, a3, a4, a5, a6, a7⟩ := c_record hF hc ho hz hd (by omega) (v := -1) (Or.inl rfl)
      obtain ⟨m', b1, b2⟩ := m_daySt hF ho hm hB (by omega)
      rw [bo_v a0, bo_v b1]
      have er := h.deed hF hm hB hk (by omega) a1 a2 a3 a4 a5 a6 a7 b2
      have e1 : c'.1 23 7 = m'.1 1 2 := by
        rw [a3.1]
        show nI (dS (ena F (rep F (upd (c.1 29) n _) n) (upd (c.1 29) n _ n))) = _
        rw [upd_eq, rep_cong (ee := c.1 29) (fun j hj => upd_ne (by omega))]
        exact b2.2.2.1.2.1.symm
      rw [e1]
      exact Sim.ret er

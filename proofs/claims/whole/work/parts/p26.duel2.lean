/-! PURE: duel, opens -/
theorem cst_le : ∀ r, r < 7 → cst r < 1000000 := by decide +kernel
theorem m_play {F : Fam} {m : Mm} {d : Dyn} {n x y : Nat} (hF : FamOk F) (hm : FamM F m) (hd : DynM 0 d (m.1 1)) (hb : Bd n d) (hn : n ≤ 40) (hx : x < fP F) (hy : y < fP F) (hQ : 0 < fQ F) : ∃ m', fX8_play (nI x) (nI y) m = some (nI (uv F (dN d) x y (fQ F) 0 (dS d) (dT d) 0), m') ∧ ScM m m' ∧ m'.1 0 31 = nI (oF (uo F (dN d) x y (fQ F - 1) 0 (dS d) (dT d) 0) (fQ F) 0 0 0) := by
  unfold fX8_play fX8_play_E
  have hq := hF.q
  have e2 : m.1 1 2 = nI (dS d) := by have := hd.2.1; exact this
  have e3 : m.1 1 3 = nI (dT d) := by have := hd.2.2.1; exact this
  obtain ⟨w1, a1, a2, a3, a4, -⟩ := m_begin (k := 0) (Q := fQ F) (S := dS d) (T := dT d) (U := 0) (w := m) (by decide) hq hm.2.1
  have a1' : fX8_beginTurn 0 (nI (dS d)) (nI (dT d)) 0 m = some w1 := a1
  rw [e2, e3, bo_v a1']
  have hC : Cx0 F (dN d) m := ⟨hm, fun i hi => ⟨by have := hd.2.2.2.2 i hi; rw [Nat.zero_add] at this; exact this, by have := hb.2.2.2.2 i; omega⟩⟩
  have h1 := hb.1
  have hcst := cst_le (fQ F) (by omega)
  obtain ⟨N', w', b1, b2, b3, b4, b5, b6⟩ := m_lvl (F := F) (N0 := dN d) hF hx hy (fQ F) 0 (dS d) (dT d) 0 FU w1 (by omega) (FU_lt (by omega)) (hC.fr a3) (by omega) hb.2.1 (by decide) rfl a2
  have hF2 : FU = 999999999999 + 1 := rfl
  obtain ⟨N', rfl⟩ : ∃ t, N' = t + 2 := ⟨N' - 2, by omega⟩
  have b2' : fX8_play_20 (nI x) (nI y) FU 0 w1 = _ := b2
  have f3 : w'.1 0 3 = nI (fQ F) := ((hC.fr a3).fr b5).1.2.1
  have b3' : w'.1 14 0 = nI (fQ F) := by
    rcases b3 with h | h
    · exact h
    · omega
  refine ⟨w', ?_, a3.sc.trans b5.sc, ?_⟩
  · rw [b2', fX8_play_20, if_neg (by decide), gd_t (inb_nI (by decide) (by decide)), show (nI 0).toNatClampNeg = 0 from rfl]
    simp only [nm]
    rw [f3, if_pos b3']
    unfold fX8_play_49 fX8_play_227
    rw [if_pos (by decide), fX8_play_20, if_pos (by decide), b4]
    rfl
  · rw [b6 rfl hQ]
    obtain ⟨Q, hQ2⟩ : ∃ Q, fQ F = Q + 1 := ⟨fQ F - 1, by omega⟩
    rw [hQ2, pF, if_neg (by rw [Nat.zero_testBit]; decide), if_pos (show oB none _ = true from rfl), pF_open, oF]
    rw [show oM none (uo F (dN d) x y (Q + 1 - 1) 0 (dS d) (dT d) 0 0) = uo F (dN d) x y (Q + 1 - 1) 0 (dS d) (dT d) 0 0 from rfl]
    by_cases g : 0 < uo F (dN d) x y (Q + 1 - 1) 0 (dS d) (dT d) 0 0
    · rw [if_pos g]
    · rw [if_neg g, show uo F (dN d) x y (Q + 1 - 1) 0 (dS d) (dT d) 0 0 = 0 by omega]
theorem noDuel_eq {c m : Mm} {F : Fam} {n : Nat} (hF : FamOk F) (hc : FamC F c) (hm : FamM F m) (hD : RelDeeds F n c m) (x1 x2 : Int32) : ∃ r, fX7_refusalOfDuel x1 x2 c = some r ∧ fX8_noDuel x1 x2 m = some r ∧ (r = 0 → inb x1 (fP F) = true ∧ inb x2 (fP F) = true ∧ dV (rep F (c.1 29) n) = 0 ∧ 0 < fQ F) := by
  obtain ⟨ho, hz, hd, hB⟩ := hD
  have hb := rep_Bd hF ho n (Nat.le_refl _)
  unfold fX7_refusalOfDuel fX7_refusalOfDuel_E fX7_refusalOfDuel_49 fX8_noDuel fX8_noDuel_E fX8_noDuel_21 fX8_noDuel_39
  rw [bo_v (c_isOne hF hc x1), bo_v (m_isOne hF hm x1), if_10, if_10, bo_v (c_isOne hF hc x2), bo_v (m_isOne hF hm x2), if_10, if_10, bo_v (c_isOver hd hb), bo_v (m_isOver hB.2.1 hb), if_01, if_01, bo_v (c_isEmpty hF hc), if_10]
  by_cases h1 : inb x1 (fP F) = true
  · rw [if_pos h1, if_pos h1]
    by_cases h2 : inb x2 (fP F) = true
    · rw [if_pos h2, if_pos h2]
      by_cases h3 : x1 = x2
      · rw [if_pos h3, if_pos h3]; exact ⟨_, rfl, rfl, fun q => absurd q (by decide)⟩
      · rw [if_neg h3, if_neg h3]
        by_cases hv : dV (rep F (c.1 29) n) = 0
        · rw [if_pos hv, if_pos hv]
          by_cases he : fQ F = 0
          · rw [if_pos he, if_pos ((q0 hF hm).mpr he)]; exact ⟨_, rfl, rfl, fun q => absurd q (by decide)⟩
          · rw [if_neg he, if_neg (fun q => he ((q0 hF hm).mp q))]; exact ⟨_, rfl, rfl, fun _ => ⟨h1, h2, hv, by omega⟩⟩
        · rw [if_neg hv, if_neg hv]; exact ⟨_, rfl, rfl, fun q => absurd q (by decide)⟩
    · rw [if_neg h2, if_neg h2]; exact ⟨_, rfl, rfl, fun q => absurd q (by decide)⟩
  · rw [if_neg h1, if_neg h1]; exact ⟨_, rfl, rfl, fun q => absurd q (by decide)⟩
/-- the class's turns stand as before -/
theorem Rel.turn {c c' m m' : Mm} {F : Fam} {n : Nat} (h : Rel c m) (hF : FamOk F) (hc : FamC F c) (hm : FamM F m) (hD : RelDeeds F n c m) (hk : RelKept F c m) (a : DynC (rep F (c.1 29) n) c') (f : FrC c c') (g : ScM m m') : Rel c' m' := by
  obtain ⟨ho, hz, hd, hB⟩ := hD
  obtain ⟨-, r2, r3, r4⟩ := h
  refine ⟨⟨F, n, hF, hc.fr f, hm.sc g, ⟨by rw [f.1 29 (by decide) (by decide)]; exact ho, by rw [f.2.1 11 (by decide) (by decide) (by decide)]; exact hz, by rw [f.1 29 (by decide) (by decide)]; exact a, by rw [f.1 29 (by decide) (by decide)]; exact hB.cg ho.1 (fun t ht => g.2.1 _ (by omega))⟩, hk.cg (f.1 19 (by decide) (by decide)) (fun k hk => f.1 _ (by omega) (by omega)) (fun t h1 h2 => g.2.1 t h2)⟩, r2.cg (fun p h1 h2 => f.1 p (by omega) (by omega)) (g.1 6 (by decide) (by decide)) (g.1 7 (by decide) (by decide)), r3.cg (fun p h1 h2 => f.1 p (by omega) (by omega)) (g.1 8 (by decide) (by decide)) (g.1 9 (by decide) (by decide)), ?_⟩
  unfold RelTell
  rw [f.1 0 (by decide) (by decide), f.1 43 (by decide) (by decide), f.2.2, g.2.2.1 12 (by decide), g.2.2.1 15 (by decide), g.2.2.2, g.1 10 (by decide) (by decide)]
  exact r4
theorem sim_duel {c m : Mm} (h : Rel c m) (x1 x2 : Int32) : Sim (fX7_duel x1 x2 c) (fX8_duel x1 x2 m) := by
  obtain ⟨F, n, hF, hc, hm, hD, hk⟩ := id h.1
  obtain ⟨ho, hz, hd, hB⟩ := id hD
  have hb := rep_Bd hF ho n (Nat.le_refl _)
  unfold fX7_duel fX7_duel_E fX8_duel fX8_duel_E
  obtain ⟨r, a1, a2, a3⟩ := noDuel_eq hF hc hm hD x1 x2
  rw [bo_v a1, bo_v a2]
  by_cases h0 : r = 0
  · rw [if_pos h0, if_pos h0]
    obtain ⟨h1, h2, hv, hQ⟩ := a3 h0
    obtain ⟨x, hx, -, rfl⟩ := inb_ex h1
    obtain ⟨y, hy, -, rfl⟩ := inb_ex h2
    obtain ⟨m', b1, b2, -⟩ := m_play hF hm hB.2.1 hb ho.1 hx hy hQ
    have hq := hF.q
    have hDEP : DEP = 10 := rfl
    obtain ⟨c', e1, e2, e3⟩ := c_worth (n := n) hF hx hy ho.1 (fQ F) 0 DEP (dS (rep F (c.1 29) n)) (dT (rep F (c.1 29) n)) 0 _ c (by omega) (by omega) hc hd hb (N0 := dN (rep F (c.1 29) n)) ⟨rfl, rfl, hv, fun _ _ => rfl⟩ (by decide)
    have e1' : fX1_worth DEP (nI x) (nI y) 0 0 c = _ := e1
    have hr := h.turn hF hc hm hD hk e2 e3 b2
    have hu := uv_le F (dN (rep F (c.1 29) n)) x y (fQ F) 0 (dS (rep F (c.1 29) n)) (dT (rep F (c.1 29) n)) 0
    rw [bd_v e1', bd_v b1]
    generalize uv F (dN (rep F (c.1 29) n)) x y (fQ F) 0 (dS (rep F (c.1 29) n)) (dT (rep F (c.1 29) n)) 0 = u at hu
    rcases (show u = 0 ∨ u = 1 ∨ u = 2 by omega) with rfl | rfl | rfl
    · exact Sim.ret hr
    · exact Sim.ret hr
    · exact Sim.ret hr
  · rw [if_neg h0, if_neg h0]; exact Sim.ret h
theorem sim_opens {c m : Mm} (h : Rel c m) (x1 x2 : Int32) : Sim (fX7_opens x1 x2 c) (fX8_opens x1 x2 m) := by
  obtain ⟨F, n, hF, hc, hm, hD, hk⟩ := id h.1
  obtain ⟨ho, hz, hd, hB⟩ := id hD
  have hb := rep_Bd hF ho n (Nat.le_refl _)
  unfold fX7_opens fX7_opens_E fX8_opens fX8_opens_E fX1_firstBest fX1_firstBest_E
  obtain ⟨r, a1, a2, a3⟩ := noDuel_eq hF hc hm hD x1 x2
  rw [bo_v a1, bo_v a2, bd_id]
  by_cases h0 : r = 0
  · rw [if_pos h0, if_pos h0]
    obtain ⟨h1, h2, hv, hQ⟩ := a3 h0
    obtain ⟨x, hx, -, rfl⟩ := inb_ex h1
    obtain ⟨y, hy, -, rfl⟩ := inb_ex h2
    obtain ⟨m', b1, b2, b3⟩ := m_play hF hm hB.2.1 hb ho.1 hx hy hQ
    have hq := hF.q
    obtain ⟨c', e1, e2, e3⟩ := c_first (n := n) hF hx hy (N0 := dN (rep F (c.1 29) n)) (S := dS (rep F (c.1 29) n)) (T := dT (rep F (c.1 29) n)) (r := fQ F - 1) ho.1 (by omega) hb ⟨rfl, rfl, hv, fun _ _ => rfl⟩ (fQ F) 0 FU 0 0 c (by omega) (FU_lt (by omega)) (by decide) hc hd
    have e1' : fX1_firstBest_8 (fX1_worth DEP) (nI x) (nI y) FU 0 (-1) 0 c = _ := e1
    have hr := h.turn hF hc hm hD hk e2 e3 b2
    rw [e1', bd_v b1, b3]
    exact Sim.ret hr
  · rw [if_neg h0, if_neg h0]; exact Sim.ret h

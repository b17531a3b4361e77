/-! PURE: lots -/
def lotN (a : Nat) : Nat := a * 48271 % 2147483647
/-- the deed that a lot tells -/
def lotV (F : Fam) (d : Dyn) (a : Nat) : Int32 := if a / 8 % 4 = 0 ∨ dV d ≠ 0 ∨ fB F (a / 64 % fP F) < dS d + near F d (a % fQ F) then -1 else nI (6 * (a / 64 % fP F) + a % fQ F)
theorem lN_lit0 : (0 : Int64) = lN 0 := rfl
theorem lot_step {a : Nat} (ha : a < 2147483647) : lN a * 48271 - lN a * 48271 / 2147483647 * 2147483647 = lN (lotN a) := by
  have e1 : (48271 : Int64) = lN 48271 := rfl
  have e2 : (2147483647 : Int64) = lN 2147483647 := rfl
  rw [e1, e2, lN_mul, pk_lRem (by omega) (by decide) (by decide)]
  rfl
theorem lot_q {a P : Nat} (ha : a < 2147483647) (h0 : 0 < P) (hP : P ≤ 6) : (lN a / 64 - lN a / 64 / (nI P).toInt64 * (nI P).toInt64).toInt32 = nI (a / 64 % P) := by
  have e1 : (64 : Int64) = lN 64 := rfl
  rw [nI_l (by omega), e1, pk_lDiv (by omega) (by decide) (by decide), pk_lRem (by omega) h0 (by omega), lN_i]
theorem lot_r {a P : Nat} (ha : a < 2147483647) (h0 : 0 < P) (hP : P ≤ 6) : (lN a - lN a / (nI P).toInt64 * (nI P).toInt64).toInt32 = nI (a % P) := by
  rw [nI_l (by omega), pk_lRem (by omega) h0 (by omega), lN_i]
theorem lot_8 {a : Nat} (ha : a < 2147483647) : (lg_cmp (lN a / 8 - lN a / 8 / 4 * 4) 0 = 0) ↔ a / 8 % 4 = 0 := by
  have e1 : (8 : Int64) = lN 8 := rfl
  have e2 : (4 : Int64) = lN 4 := rfl
  rw [lg_eq, e1, e2, pk_lDiv (by omega) (by decide) (by decide), pk_lRem (by omega) (by decide) (by decide), lN_lit0, pk_lEQ (by omega) (by decide)]
theorem nz64 {P : Nat} (h0 : 0 < P) (hP : P ≤ 6) : ¬ (nI P).toInt64 = 0 := by
  rw [nI_l (by omega), lN_lit0, pk_lEQ (by omega) (by decide)]
  omega
theorem lotN_lt (a : Nat) : lotN a < 2147483647 := Nat.mod_lt _ (by decide)
section PL
variable {F : Fam} {d : Dyn} {c m : Mm} {n : Nat}
theorem c_byLot (hF : FamOk F) (hc : FamC F c) (hd : DynC d c) (hb : Bd n d) (hn : n ≤ 60) (hQ : 0 < fQ F) {a : Nat} (ha : a < 2147483647) : fX2_deedByLot_23 (lN a) c = some (lotV F d a) := by
  unfold fX2_deedByLot_23 fX2_deedByLot_23_E
  have hq := hF.q
  have hp := hF.p
  have h6 := hF.2.2.2.2.2
  have hP : 0 < fP F := by omega
  have hx : a / 64 % fP F < fP F := Nat.mod_lt _ hP
  have hi : a % fQ F < fQ F := Nat.mod_lt _ hQ
  rw [bo_v (c_isEmpty hF hc), if_10, if_neg (by omega)]
  unfold lotV
  by_cases h1 : a / 8 % 4 = 0
  · rw [if_pos ((lot_8 ha).mpr h1), if_pos (Or.inl h1)]
  · rw [if_neg (fun q => h1 ((lot_8 ha).mp q)), bo_v (c_isOver hd hb), if_01]
    by_cases h2 : dV d = 0
    · rw [if_pos h2, hc.1, hc.2.1]
      simp only [nm]
      rw [gd_t (nz64 hP (by omega)), gd_t (nz64 hQ (by omega)), lot_q ha hP (by omega), lot_r ha hQ (by omega), bo_v (c_bears hF hc hd hb hn hx hi), if_10, bo_id]
      by_cases h3 : dS d + near F d (a % fQ F) ≤ fB F (a / 64 % fP F)
      · rw [if_pos h3, if_neg (by omega)]
        unfold fX2_deedOf fX2_deedOf_E
        have e6 : (6 : Int32) = nI 6 := rfl
        rw [e6, pk_mul, nI_add, Nat.mul_comm]
      · rw [if_neg h3, if_pos (by omega)]
    · rw [if_neg h2, if_pos (Or.inr (Or.inl h2))]
theorem lot_ok (hF : FamOk F) (hQ : 0 < fQ F) (a : Nat) : okV F d (lotV F d a) := by
  have h6 := hF.2.2.2.2.2
  have hP : 0 < fP F := by omega
  unfold lotV
  by_cases h : a / 8 % 4 = 0 ∨ dV d ≠ 0 ∨ fB F (a / 64 % fP F) < dS d + near F d (a % fQ F)
  · rw [if_pos h]; exact Or.inl rfl
  · rw [if_neg h]
    exact Or.inr ⟨_, _, Nat.mod_lt _ hP, Nat.mod_lt _ hQ, rfl, by omega⟩
end PL
/-- the loops of lots, side by side -/
theorem lots_loop {x1 : Nat} (hx1 : x1 ≤ 20) : ∀ k j N M (a : Nat) (c m : Mm) (F : Fam) (n : Nat), j + k = x1 → k < N → k < M → a < 2147483647 → Rel c m → FamOk F → FamC F c → FamM F m → RelDeeds F n c m → RelKept F c m → 0 < fQ F → n + k ≤ 40 → Sim (fX7_lots_63 (nI x1) N (lN a) (nI j) c) (fX8_lots_58 (nI x1) M (lN a) (nI j) m) := by
  intro k
  induction k with
  | zero =>
    intro j N M a c m F n hj hN hM ha h hF hc hm hd hk hQ hn
    obtain ⟨N, rfl⟩ : ∃ t, N = t + 1 := ⟨N - 1, by omega⟩
    obtain ⟨M, rfl⟩ : ∃ t, M = t + 1 := ⟨M - 1, by omega⟩
    have : j = x1 := by omega
    subst this
    obtain ⟨ho, hz, hdc, hB⟩ := hd
    have e2 : m.1 1 2 = nI (dS (rep F (c.1 29) n)) := by have := hB.2.1.2.1; exact this
    rw [fX7_lots_63, fX8_lots_58, if_pos (nI_le (Nat.le_refl _) (by omega)), if_pos (nI_le (Nat.le_refl _) (by omega)), hdc.1, e2]
    exact Sim.ret h
  | succ k ih =>
    intro j N M a c m F n hj hN hM ha h hF hc hm hd hk hQ hn
    obtain ⟨N, rfl⟩ : ∃ t, N = t + 1 := ⟨N - 1, by omega⟩
    obtain ⟨M, rfl⟩ : ∃ t, M = t + 1 := ⟨M - 1, by omega⟩
    obtain ⟨ho, hz, hdc, hB⟩ := hd
    have hq := hF.q
    have hp := hF.p
    have h6 := hF.2.2.2.2.2
    have hP : 0 < fP F := by omega
    have hb := rep_Bd hF ho n (Nat.le_refl _)
    have ha' := lotN_lt a
    generalize ea : lotN a = b at ha'
    have hx : b / 64 % fP F < fP F := Nat.mod_lt _ hP
    have hi : b % fQ F < fQ F := Nat.mod_lt _ hQ
    rw [fX7_lots_63, fX8_lots_58, if_neg (nI_ge (by omega) (by omega)), if_neg (nI_ge (by omega) (by omega)), lot_step ha, ea]
    simp only [nm]
    rw [bo_v (c_byLot hF hc hdc hb (by omega) hQ ha')]
    obtain ⟨c', a0, a1, a2, a3, a4, a5, a6, a7⟩ := c_record hF hc ho hz hdc (by omega) (lot_ok hF hQ b)
    rw [bo_v a0, hm.1, hm.2.1, gd_t (nz64 hP (by omega)), gd_t (nz64 hQ (by omega)), lot_q ha' hP (by omega), lot_r ha' hQ (by omega), nI_1]
    have fin : ∀ m', MSt F (c.1 29) n (lotV F (rep F (c.1 29) n) b) m m' → Sim (fX7_lots_63 (nI x1) N (lN b) (nI (j + 1)) c') (fX8_lots_58 (nI x1) M (lN b) (nI (j + 1)) m') := by
      intro m' hs
      have er := h.deed hF hm hB hk (by omega) a1 a2 a3 a4 a5 a6 a7 hs
      obtain ⟨s1, s2, s3, s4, s5⟩ := hs
      refine ih (j + 1) N M b c' m' F (n + 1) (by omega) (by omega) (by omega) ha' er hF a5 ?_ ⟨by rw [a1]; exact a4, a2, by rw [a1]; exact a3, by rw [a1]; exact hB.step (by omega) s1 (fun t h1 h2 => s2 t h1) s3⟩ (hk.cg (a6 19 (by decide) (by decide) (by decide)) (fun k hk => a6 _ (by omega) (by omega) (by omega)) (fun t h1 h2 => by rw [s2 t (by omega), if_neg (by omega)])) hQ (by omega)
      unfold FamM
      rw [s4 0 (by decide), s4 2 (by decide), s4 3 (by decide), s4 4 (by decide), s4 5 (by decide)]
      exact hm
    have dayc : lotV F (rep F (c.1 29) n) b = -1 → Sim (fX7_lots_63 (nI x1) N (lN b) (nI (j + 1)) c') (fX8_lots_130 (fX8_lots_58 (nI x1) M) (nI x1) (lN b) (nI j) m) := by
      intro e
      unfold fX8_lots_130 fX8_lots_150
      obtain ⟨m', b1, b2⟩ := m_daySt hF ho hm hB (by omega)
      rw [bo_v b1, nI_1]
      exact fin m' (by rw [e]; exact b2)
    by_cases h1 : b / 8 % 4 = 0
    · rw [if_pos ((lot_8 ha').mpr h1)]
      exact dayc (by unfold lotV; rw [if_pos (Or.inl h1)])
    · rw [if_neg (fun q => h1 ((lot_8 ha').mp q)), bo_v (m_isOver hB.2.1 hb), if_01]
      by_cases h2 : dV (rep F (c.1 29) n) = 0
      · rw [if_pos h2, bo_v (m_bears hF hm hB.2.1 hb (by omega) hx hi), if_10]
        by_cases h3 : dS (rep F (c.1 29) n) + near F (rep F (c.1 29) n) (b % fQ F) ≤ fB F (b / 64 % fP F)
        · rw [if_pos h3]
          obtain ⟨m1, m', b0, b1, b2⟩ := m_saySt hF ho hm hB (by omega) hx hi
          rw [bo_v b0, bo_v b1]
          unfold fX8_lots_150
          rw [nI_1]
          exact fin m' (by unfold lotV; rw [if_neg (by omega)]; exact b2)
        · rw [if_neg h3]
          exact dayc (by unfold lotV; rw [if_pos (by omega)])
      · rw [if_neg h2]
        exact dayc (by unfold lotV; rw [if_pos (Or.inr (Or.inl h2))])
theorem in_rng {x : Int32} {L M : Int64} {a b : Int32} (hL : L = a.toInt64) (hM : M = b.toInt64) : fX8_in x.toInt64 L M = some (if a ≤ x ∧ x ≤ b then 1 else 0) := by
  rw [hL, hM]; exact in_w x a b
theorem sim_lots {c m : Mm} (h : Rel c m) (x1 x2 : Int32) : Sim (fX7_lots x1 x2 c) (fX8_lots x1 x2 m) := by
  unfold fX7_lots fX7_lots_E fX8_lots fX8_lots_E
  obtain ⟨F, n, hF, hc, hm, ⟨ho, hz, hd, hB⟩, hk⟩ := id h.1
  have hn := ho.1
  have h0 : (0 : Int32).toInt = 0 := rfl
  have e1 : (1 : Int32).toInt = 1 := rfl
  have e20 : (20 : Int32).toInt = 20 := rfl
  have eM : (2147483646 : Int32).toInt = 2147483646 := rfl
  rw [bo_v (in_rng (x := x1) (L := 1) (M := 20) (a := 1) (b := 20) rfl rfl), if_10, bo_v (in_rng (x := x2) (L := 1) (M := 2147483646) (a := 1) (b := 2147483646) rfl rfl), if_10, bo_v (c_isEmpty hF hc), if_10, hz, hB.1]
  simp only [nm]
  by_cases h1 : (1 : Int32) ≤ x1 ∧ x1 ≤ 20
  · rw [if_pos h1, if_neg (Int32.not_lt.mpr h1.1), if_neg (Int32.not_lt.mpr h1.2)]
    rw [Int32.le_iff_toInt_le, Int32.le_iff_toInt_le, e1, e20] at h1
    by_cases h2 : (1 : Int32) ≤ x2 ∧ x2 ≤ 2147483646
    · rw [if_pos h2, if_neg (Int32.not_lt.mpr h2.1)]
      rw [Int32.le_iff_toInt_le, Int32.le_iff_toInt_le, e1, eM] at h2
      rw [if_pos (by
        rw [lg_lt, fa_lt64, toI64]
        have : (2147483647 : Int64).toInt = 2147483647 := rfl
        omega)]
      by_cases he : fQ F = 0
      · rw [if_pos he, if_pos ((q0 hF hm).mpr he)]
        exact Sim.ret h
      · rw [if_neg he, if_neg (fun q => he ((q0 hF hm).mp q))]
        obtain ⟨k, hk1, rfl⟩ : ∃ k : Nat, (x1.toInt = k) ∧ x1 = nI k := ⟨x1.toInt.toNat, by omega, nI_of_toInt (by omega) (by omega)⟩
        obtain ⟨b, hb1, rfl⟩ : ∃ k : Nat, (x2.toInt = k) ∧ x2 = nI k := ⟨x2.toInt.toNat, by omega, nI_of_toInt (by omega) (by omega)⟩
        have e40 : (40 : Int32) = nI 40 := rfl
        rw [nI_add, e40, nI_l (show b < 2 ^ 31 by omega)]
        by_cases hl : n + k ≤ 40
        · rw [if_pos (nI_le hl (by decide)), if_pos (nI_le hl (by decide))]
          exact lots_loop (by omega) k 0 FU FU b c m F n (by omega) (FU_lt (by omega)) (FU_lt (by omega)) (by omega) h hF hc hm ⟨ho, hz, hd, hB⟩ hk (by omega) hl
        · rw [if_neg (nI_ge (by omega) (by omega)), if_neg (nI_ge (by omega) (by omega))]
          exact Sim.ret h
    · rw [if_neg h2]
      by_cases q : x2 < 1
      · rw [if_pos q]
        exact Sim.ret h
      · rw [if_neg q, if_neg]
        · exact Sim.ret h
        · intro g
          rw [lg_lt, fa_lt64, toI64] at g
          have e : (2147483647 : Int64).toInt = 2147483647 := rfl
          apply h2
          refine ⟨Int32.not_lt.mp q, ?_⟩
          rw [Int32.le_iff_toInt_le, eM]
          omega
  · rw [if_neg h1]
    by_cases q : x1 < 1
    · rw [if_pos q]
      exact Sim.ret h
    · rw [if_neg q, if_pos]
      · exact Sim.ret h
      · exact Int32.not_le.mp (fun g => h1 ⟨Int32.not_lt.mp q, g⟩)

/-! PURE: count, digest -/
def itp {σ : Type} (step : Nat → σ → σ) : Nat → Nat → σ → σ
  | _, 0, y => y
  | j, k + 1, y => itp step (j + 1) k (step j y)
theorem adv_fin {α σ : Type} {f : Nat → σ → Int32 → Option α} {step : Nat → σ → σ} {fin : σ → Option α} (e : Nat) (hs : ∀ N j y, j < e → f (N + 1) y (nI j) = f N (step j y) (nI (j + 1))) (hx : ∀ N y, f (N + 1) y (nI e) = fin y) : ∀ k j N y, j + k = e → k < N → f N y (nI j) = fin (itp step j k y) := by
  intro k
  induction k with
  | zero =>
    intro j N y hj hN
    obtain ⟨N, rfl⟩ : ∃ t, N = t + 1 := ⟨N - 1, by omega⟩
    have : j = e := by omega
    subst this
    exact hx N y
  | succ k ih =>
    intro j N y hj hN
    obtain ⟨N, rfl⟩ : ∃ t, N = t + 1 := ⟨N - 1, by omega⟩
    rw [hs N j y (by omega), ih (j + 1) N _ (by omega) (by omega)]
    rfl
theorem lk {α β σ : Type} {R : Option α → Option β → Prop} {f : Nat → σ → Int32 → Option α} {g : Nat → σ → Int32 → Option β} (e a b : Nat) (hs : ∀ N M j y, j < e → ∃ y', f (N + 1) y (nI (a + j)) = f N y' (nI (a + j + 1)) ∧ g (M + 1) y (nI (b + j)) = g M y' (nI (b + j + 1))) (hx : ∀ N M y, R (f (N + 1) y (nI (a + e))) (g (M + 1) y (nI (b + e)))) : ∀ k j N M y, j + k = e → k < N → k < M → R (f N y (nI (a + j))) (g M y (nI (b + j))) := by
  intro k
  induction k with
  | zero =>
    intro j N M y hj hN hM
    obtain ⟨N, rfl⟩ : ∃ t, N = t + 1 := ⟨N - 1, by omega⟩
    obtain ⟨M, rfl⟩ : ∃ t, M = t + 1 := ⟨M - 1, by omega⟩
    have : j = e := by omega
    subst this
    exact hx N M y
  | succ k ih =>
    intro j N M y hj hN hM
    obtain ⟨N, rfl⟩ : ∃ t, N = t + 1 := ⟨N - 1, by omega⟩
    obtain ⟨M, rfl⟩ : ∃ t, M = t + 1 := ⟨M - 1, by omega⟩
    obtain ⟨y', h1, h2⟩ := hs N M j y (by omega)
    rw [h1, h2]
    exact ih (j + 1) N M y' (by omega) (by omega) (by omega)
/-- the same, both from 0 -/
theorem lk0 {α β σ : Type} {R : Option α → Option β → Prop} {f : Nat → σ → Int32 → Option α} {g : Nat → σ → Int32 → Option β} (e : Nat) (he : e < 1000000) (hs : ∀ N M j y, j < e → ∃ y', f (N + 1) y (nI j) = f N y' (nI (j + 1)) ∧ g (M + 1) y (nI j) = g M y' (nI (j + 1))) (hx : ∀ N M y, R (f (N + 1) y (nI e)) (g (M + 1) y (nI e))) (y : σ) : R (f FU y 0) (g FU y 0) := by
  have h := lk (R := R) (f := f) (g := g) e 0 0 (fun N M j y hj => by rw [Nat.zero_add]; exact hs N M j y hj) (fun N M y => by rw [Nat.zero_add]; exact hx N M y) e 0 FU FU y (by omega) (FU_lt (by omega)) (FU_lt (by omega))
  exact h
theorem i32_add0 (y : Int32) : y + 0 = y := Int32.add_zero y
section PCt
variable {F : Fam} {c m : Mm} {n : Nat}
theorem c_days (hF : FamOk F) (ho : okD F (c.1 29) n) (hz : c.1 23 11 = nI n) : fX2_daysGone_23 c = some (nI (dD (rep F (c.1 29) n))) := by
  unfold fX2_daysGone_23 fX2_daysGone_23_E
  have hn := ho.1
  have hq := hF.q
  have hp := hF.p
  have lp : ∀ k j N, j + k = n → k < N → fX2_daysGone_23_4 c N (nI (dD (rep F (c.1 29) j))) (nI j) = some (nI (dD (rep F (c.1 29) n))) := by
    intro k
    induction k with
    | zero =>
      intro j N hj hN
      obtain ⟨N, rfl⟩ : ∃ t, N = t + 1 := ⟨N - 1, by omega⟩
      have : j = n := by omega
      subst this
      rw [fX2_daysGone_23_4, hz, if_pos (nI_le (Nat.le_refl _) (by omega))]
    | succ k ih =>
      intro j N hj hN
      obtain ⟨N, rfl⟩ : ∃ t, N = t + 1 := ⟨N - 1, by omega⟩
      have := ih (j + 1) N (by omega) (by omega)
      rw [fX2_daysGone_23_4, hz, if_neg (nI_ge (by omega) (by omega)), gd_t (inb_nI (by omega) (by decide)), nI_clamp (show j < 2 ^ 31 by omega)]
      unfold fX2_daysGone_23_25
      rw [nI_1, nI_1]
      rw [rep] at this
      rcases ho.2 j (by omega) with e | ⟨x, i, hx, hi, e, -⟩
      · rw [if_pos e]
        rw [e, ena_day] at this
        exact this
      · rw [if_neg (by rw [e]; exact nI_ne_m1 (by omega))]
        rw [e, ena_say F _ (by omega) (by omega)] at this
        exact this
  exact lp n 0 FU (by omega) (FU_lt (by omega))
theorem sim_hints (hF : FamOk F) (hc : FamC F c) (hm : FamM F m) : Sim1 (fX2_howManyOfKind_23 1 c) (fX8_hints m) := by
  unfold fX2_howManyOfKind_23 fX2_howManyOfKind_23_E fX8_hints fX8_hints_E
  have hq := hF.q
  have e1 : (1 : Int32) = nI 1 := rfl
  refine lk0 (R := Sim1) (f := fX2_howManyOfKind_23_4 1 c) (g := fX8_hints_4 m) (fQ F) (by omega) (fun N M j y hj => ?_) (fun N M y => ?_) 0
  · rw [fX2_howManyOfKind_23_4, fX8_hints_4, hc.2.1, hm.2.1, if_neg (nI_ge (by omega) (by omega)), if_neg (nI_ge (by omega) (by omega))]
    have a1 : fX2_isOfKind_23 (nI j) 1 c = _ := c_isOf hF hc hj (w := 1) (by decide) (by decide)
    have a2 : fX8_isOf (nI j) 1 m = _ := m_isOf hF hm hj (w := 1) (by decide) (by decide)
    rw [bo_v a1, bo_v a2, if_10, if_10]
    unfold fX2_howManyOfKind_23_24 fX8_hints_27
    simp only [nm]
    rw [nI_1, i32_add0]
    by_cases h : isk (fK F j) 1 = true
    · rw [if_pos h, if_pos h]; exact ⟨_, rfl, rfl⟩
    · rw [if_neg h, if_neg h]; exact ⟨_, rfl, rfl⟩
  · rw [fX2_howManyOfKind_23_4, fX8_hints_4, hc.2.1, hm.2.1, if_pos (nI_le (Nat.le_refl _) (by omega)), if_pos (nI_le (Nat.le_refl _) (by omega))]
    exact Sim1.ret _
theorem sim_many1 (h : RelRows c m) : Sim1 (fX5_howMany_1 c) (fX8_thereOf 8 m) := by
  unfold fX5_howMany_1 fX5_howMany_1_E fX8_thereOf fX8_thereOf_E
  refine lk0 (R := Sim1) (f := fX5_howMany_1_4 c) (g := fX8_thereOf_4 8 m) 6 (by decide) (fun N M j y hj => ?_) (fun N M y => ?_) 0
  · rw [fX5_howMany_1_4, fX8_thereOf_4, if_neg (show ¬ (6 : Int32) ≤ nI j from nI_ge hj (by decide)), if_neg (show ¬ (6 : Int32) ≤ nI j from nI_ge hj (by decide)), if_pos rfl, gd_t (inb_nI hj (by decide)), gd_t (inb_nI hj (by decide)), nI_clamp (show j < 2 ^ 31 by omega)]
    unfold fX5_howMany_1_26 fX8_thereOf_89
    simp only [nm]
    rw [nI_1, i32_add0]
    rcases h.sz hj with ⟨e1, e2⟩ | ⟨s, hs, e1, e2⟩
    · rw [if_pos e1, e2, if_neg m1_ge0]; exact ⟨_, rfl, rfl⟩
    · rw [e1, e2, if_neg (nI_ne_m1 (by omega)), if_pos (nI_ge0 (by omega))]; exact ⟨_, rfl, rfl⟩
  · rw [fX5_howMany_1_4, fX8_thereOf_4, if_pos (show (6 : Int32) ≤ nI 6 by decide), if_pos (show (6 : Int32) ≤ nI 6 by decide)]
    exact Sim1.ret _
theorem lt0_m1 : (-1 : Int32) < 0 := by decide
theorem sim_many10 (h : RelTexts c m) : Sim1 (fX5_howMany_10 c) (fX8_thereOf 9 m) := by
  unfold fX5_howMany_10 fX5_howMany_10_E fX8_thereOf fX8_thereOf_E
  have x98 : ¬ (9 : Int32) = 8 := by decide
  have a := adv_fin (f := fX5_howMany_10_4 c) (step := fun j y => if c.1 12 j = -1 then y else y + 1) (fin := some) 4 (fun N j y hj => by
    rw [fX5_howMany_10_4, if_neg (show ¬ (4 : Int32) ≤ nI j from nI_ge hj (by decide)), gd_t (inb_nI hj (by decide)), nI_clamp (show j < 2 ^ 31 by omega)]
    unfold fX5_howMany_10_26
    rw [nI_1]
    by_cases e : c.1 12 j = -1
    · rw [if_pos e, if_pos e]
    · rw [if_neg e, if_neg e]) (fun N y => by rw [fX5_howMany_10_4, if_pos (by decide)]) 4 0 FU 0 (by omega) (FU_lt (by decide))
  have b := adv_fin (f := fX8_thereOf_4 9 m) (step := fun j y => if j < 4 then (if c.1 12 j = -1 then y else y + 1) else y) (fin := some) 6 (fun N j y hj => by
    rw [fX8_thereOf_4, if_neg (show ¬ (6 : Int32) ≤ nI j from nI_ge hj (by decide)), if_neg x98, if_pos rfl]
    unfold fX8_thereOf_58 fX8_thereOf_89
    simp only [nm]
    rw [nI_1, i32_add0]
    by_cases h4 : j < 4
    · rw [if_pos h4, if_neg (show ¬ (4 : Int32) ≤ nI j from nI_ge h4 (by decide)), gd_t (inb_nI h4 (by decide)), nI_clamp (show j < 2 ^ 31 by omega)]
      rcases h.sz h4 with ⟨e1, e2⟩ | ⟨s, hs, e1, e2⟩
      · rw [if_pos e1, e2, if_pos lt0_m1]
      · rw [e1, e2, if_neg (nI_ne_m1 (by omega)), if_neg (nI_pos (by omega))]
    · rw [if_neg h4, if_pos (show (4 : Int32) ≤ nI j from nI_le (show 4 ≤ j by omega) (by omega))]) (fun N y => by rw [fX8_thereOf_4, if_pos (by decide)]) 6 0 FU 0 (by omega) (FU_lt (by decide))
  exact ⟨_, a, b⟩
theorem sim_many17 (h : RelKept F c m) : Sim1 (fX5_howMany_17 c) (fX8_thereOf 10 m) := by
  unfold fX5_howMany_17 fX5_howMany_17_E fX8_thereOf fX8_thereOf_E
  have x98 : ¬ (10 : Int32) = 8 := by decide
  have x99 : ¬ (10 : Int32) = 9 := by decide
  have e411 : (411 : Int32) = nI 411 := rfl
  have a := adv_fin (f := fX5_howMany_17_4 c) (step := fun j y => if c.1 19 j = -1 then y else y + 1) (fin := some) 3 (fun N j y hj => by
    rw [fX5_howMany_17_4, if_neg (show ¬ (3 : Int32) ≤ nI j from nI_ge hj (by decide)), gd_t (inb_nI hj (by decide)), nI_clamp (show j < 2 ^ 31 by omega)]
    unfold fX5_howMany_17_26
    rw [nI_1]
    by_cases e : c.1 19 j = -1
    · rw [if_pos e, if_pos e]
    · rw [if_neg e, if_neg e]) (fun N y => by rw [fX5_howMany_17_4, if_pos (by decide)]) 3 0 FU 0 (by omega) (FU_lt (by decide))
  have b := adv_fin (f := fX8_thereOf_4 10 m) (step := fun j y => if j < 3 then (if c.1 19 j = -1 then y else y + 1) else y) (fin := some) 6 (fun N j y hj => by
    rw [fX8_thereOf_4, if_neg (show ¬ (6 : Int32) ≤ nI j from nI_ge hj (by decide)), if_neg x98, if_neg x99]
    unfold fX8_thereOf_88 fX8_thereOf_89
    simp only [nm]
    rw [nI_1, i32_add0]
    by_cases h4 : j < 3
    · rw [if_pos h4, if_neg (show ¬ (3 : Int32) ≤ nI j from nI_ge h4 (by decide)), e411, show (1 : Int32) + nI j = nI (1 + j) from nI_add 1 j, pk_mul, i32_add0, gd_t (inb_nI (by omega) (by decide)), nI_clamp (by omega), Nat.add_comm 1 j]
      rcases h j h4 with ⟨e1, e2⟩ | ⟨s, e1, e2, e3⟩
      · rw [if_pos e1, e2, if_pos lt0_m1]
      · have := e2.1
        rw [e1, e3.1, if_neg (nI_ne_m1 (by omega)), if_neg (nI_pos (by omega))]
    · rw [if_neg h4, if_pos (show (3 : Int32) ≤ nI j from nI_le (show 3 ≤ j by omega) (by omega))]) (fun N y => by rw [fX8_thereOf_4, if_pos (by decide)]) 6 0 FU 0 (by omega) (FU_lt (by decide))
  exact ⟨_, a, b⟩
end PCt
theorem sim_countOf {c m : Mm} (h : Rel c m) {k : Nat} (hk : k < 11) : Sim1 (fX7_count (nI k) c) (fX8_countOf (nI k) m) := by
  obtain ⟨F, n, hF, hc, hm, ⟨ho, hz, hd, hB⟩, hkp⟩ := id h.1
  unfold fX7_count fX7_count_E fX8_countOf fX8_countOf_E
  rw [bo_id, bo_id, bo_id, bo_id, bo_id, bo_id, bo_id]
  have e0 : m.1 1 0 = nI n := hB.1
  have e1 : m.1 1 1 = nI (dD (rep F (c.1 29) n)) := hB.2.1.1
  have e2 : m.1 1 2 = nI (dS (rep F (c.1 29) n)) := hB.2.1.2.1
  have e3 : m.1 1 3 = nI (dT (rep F (c.1 29) n)) := hB.2.1.2.2.1
  have e4 : m.1 1 4 = ovI (dV (rep F (c.1 29) n)) := hB.2.1.2.2.2.1
  rw [e0, e1, e2, e3, e4, hc.1, hc.2.1, hm.1, hm.2.1, hz, hd.1, hd.2.1, hd.2.2.1, c_days hF ho hz]
  rcases (show k = 0 ∨ k = 1 ∨ k = 2 ∨ k = 3 ∨ k = 4 ∨ k = 5 ∨ k = 6 ∨ k = 7 ∨ k = 8 ∨ k = 9 ∨ k = 10 by omega) with rfl | rfl | rfl | rfl | rfl | rfl | rfl | rfl | rfl | rfl | rfl
  · exact ⟨_, rfl, rfl⟩
  · exact ⟨_, rfl, rfl⟩
  · exact ⟨_, rfl, rfl⟩
  · exact ⟨_, rfl, rfl⟩
  · exact ⟨_, rfl, rfl⟩
  · exact ⟨_, rfl, rfl⟩
  · exact ⟨_, rfl, rfl⟩
  · rw [if_neg (show ¬ nI 7 = (0 : Int32) by decide), if_neg (show ¬ nI 7 = (1 : Int32) by decide), if_neg (show ¬ nI 7 = (2 : Int32) by decide), if_neg (show ¬ nI 7 = (3 : Int32) by decide), if_neg (show ¬ nI 7 = (4 : Int32) by decide), if_neg (show ¬ nI 7 = (5 : Int32) by decide), if_neg (show ¬ nI 7 = (6 : Int32) by decide), if_pos (show nI 7 = (7 : Int32) from rfl), if_neg (show ¬ nI 7 = (0 : Int32) by decide), if_neg (show ¬ nI 7 = (1 : Int32) by decide), if_neg (show ¬ nI 7 = (2 : Int32) by decide), if_neg (show ¬ nI 7 = (3 : Int32) by decide), if_neg (show ¬ nI 7 = (4 : Int32) by decide), if_neg (show ¬ nI 7 = (5 : Int32) by decide), if_neg (show ¬ nI 7 = (6 : Int32) by decide), if_pos (show nI 7 = (7 : Int32) from rfl)]
    exact sim_hints hF hc hm
  · rw [if_neg (show ¬ nI 8 = (0 : Int32) by decide), if_neg (show ¬ nI 8 = (1 : Int32) by decide), if_neg (show ¬ nI 8 = (2 : Int32) by decide), if_neg (show ¬ nI 8 = (3 : Int32) by decide), if_neg (show ¬ nI 8 = (4 : Int32) by decide), if_neg (show ¬ nI 8 = (5 : Int32) by decide), if_neg (show ¬ nI 8 = (6 : Int32) by decide), if_neg (show ¬ nI 8 = (7 : Int32) by decide), if_pos (show nI 8 = (8 : Int32) from rfl), if_neg (show ¬ nI 8 = (0 : Int32) by decide), if_neg (show ¬ nI 8 = (1 : Int32) by decide), if_neg (show ¬ nI 8 = (2 : Int32) by decide), if_neg (show ¬ nI 8 = (3 : Int32) by decide), if_neg (show ¬ nI 8 = (4 : Int32) by decide), if_neg (show ¬ nI 8 = (5 : Int32) by decide), if_neg (show ¬ nI 8 = (6 : Int32) by decide), if_neg (show ¬ nI 8 = (7 : Int32) by decide), show nI 8 = (8 : Int32) from rfl]
    exact sim_many1 h.2.1
  · rw [if_neg (show ¬ nI 9 = (0 : Int32) by decide), if_neg (show ¬ nI 9 = (1 : Int32) by decide), if_neg (show ¬ nI 9 = (2 : Int32) by decide), if_neg (show ¬ nI 9 = (3 : Int32) by decide), if_neg (show ¬ nI 9 = (4 : Int32) by decide), if_neg (show ¬ nI 9 = (5 : Int32) by decide), if_neg (show ¬ nI 9 = (6 : Int32) by decide), if_neg (show ¬ nI 9 = (7 : Int32) by decide), if_neg (show ¬ nI 9 = (8 : Int32) by decide), if_pos (show nI 9 = (9 : Int32) from rfl), if_neg (show ¬ nI 9 = (0 : Int32) by decide), if_neg (show ¬ nI 9 = (1 : Int32) by decide), if_neg (show ¬ nI 9 = (2 : Int32) by decide), if_neg (show ¬ nI 9 = (3 : Int32) by decide), if_neg (show ¬ nI 9 = (4 : Int32) by decide), if_neg (show ¬ nI 9 = (5 : Int32) by decide), if_neg (show ¬ nI 9 = (6 : Int32) by decide), if_neg (show ¬ nI 9 = (7 : Int32) by decide), show nI 9 = (9 : Int32) from rfl]
    exact sim_many10 h.2.2.1
  · rw [if_neg (show ¬ nI 10 = (0 : Int32) by decide), if_neg (show ¬ nI 10 = (1 : Int32) by decide), if_neg (show ¬ nI 10 = (2 : Int32) by decide), if_neg (show ¬ nI 10 = (3 : Int32) by decide), if_neg (show ¬ nI 10 = (4 : Int32) by decide), if_neg (show ¬ nI 10 = (5 : Int32) by decide), if_neg (show ¬ nI 10 = (6 : Int32) by decide), if_neg (show ¬ nI 10 = (7 : Int32) by decide), if_neg (show ¬ nI 10 = (8 : Int32) by decide), if_neg (show ¬ nI 10 = (9 : Int32) by decide), if_pos (show nI 10 = (10 : Int32) from rfl), if_neg (show ¬ nI 10 = (0 : Int32) by decide), if_neg (show ¬ nI 10 = (1 : Int32) by decide), if_neg (show ¬ nI 10 = (2 : Int32) by decide), if_neg (show ¬ nI 10 = (3 : Int32) by decide), if_neg (show ¬ nI 10 = (4 : Int32) by decide), if_neg (show ¬ nI 10 = (5 : Int32) by decide), if_neg (show ¬ nI 10 = (6 : Int32) by decide), if_neg (show ¬ nI 10 = (7 : Int32) by decide), show nI 10 = (10 : Int32) from rfl]
    exact sim_many17 hkp
theorem sim_count {c m : Mm} (h : Rel c m) (x1 : Int32) : Sim1 (fX7_count x1 c) (fX8_count x1 m) := by
  unfold fX8_count fX8_count_E
  rw [bo_v (in_n x1 10 10 11 rfl rfl), if_10, bo_id]
  by_cases h1 : inb x1 11 = true
  · rw [if_pos h1]
    obtain ⟨k, hk, -, rfl⟩ := inb_ex h1
    exact sim_countOf h hk
  · rw [if_neg h1]
    have q : ∀ k, k < 11 → ¬ x1 = nI k := fun k hk e => h1 (by rw [e]; exact inb_nI hk (by decide))
    unfold fX7_count fX7_count_E
    rw [if_neg (show ¬ x1 = (0 : Int32) from q 0 (by decide)), if_neg (show ¬ x1 = (1 : Int32) from q 1 (by decide)), if_neg (show ¬ x1 = (2 : Int32) from q 2 (by decide)), if_neg (show ¬ x1 = (3 : Int32) from q 3 (by decide)), if_neg (show ¬ x1 = (4 : Int32) from q 4 (by decide)), if_neg (show ¬ x1 = (5 : Int32) from q 5 (by decide)), if_neg (show ¬ x1 = (6 : Int32) from q 6 (by decide)), if_neg (show ¬ x1 = (7 : Int32) from q 7 (by decide)), if_neg (show ¬ x1 = (8 : Int32) from q 8 (by decide)), if_neg (show ¬ x1 = (9 : Int32) from q 9 (by decide)), if_neg (show ¬ x1 = (10 : Int32) from q 10 (by decide))]
    exact Sim1.ret _
/-! digest -/
theorem dg_row {c m : Mm} (h : RelRows c m) {r : Nat} (hr : r < 6) (y : Int64) : ∃ y', (∀ K : Int64 → Int32 → Option Int64, fX5_mixInto_1_33 K (nI r) c FU y 0 = K y' (nI r + 1)) ∧ (∀ K : Int64 → Int32 → Option Int64, fX8_digest_167 K (nI r) m FU y 0 = K y' (nI r + 1)) := by
  have hF : FU = 999999999999 + 1 := rfl
  rcases h.sz hr with ⟨e1, e2⟩ | ⟨s, hs, e1, e2⟩
  · refine ⟨y, fun K => ?_, fun K => ?_⟩
    · rw [hF, fX5_mixInto_1_33, gd_t (inb_nI hr (by decide)), nI_clamp (show r < 2 ^ 31 by omega), e1, if_pos (by decide)]
    · rw [hF, fX8_digest_167, gd_t (inb_nI hr (by decide)), nI_clamp (show r < 2 ^ 31 by omega), e2, if_pos (by decide)]
  · refine ⟨itp (fun j y => 31 * y + (c.1 (4 + r) j).toInt64) 0 s y, fun K => ?_, fun K => ?_⟩
    · exact adv_fin (f := fX5_mixInto_1_33 K (nI r) c) (step := fun j y => 31 * y + (c.1 (4 + r) j).toInt64) (fin := fun y => K y (nI r + 1)) s (fun N j y hj => by
        rw [fX5_mixInto_1_33, gd_t (inb_nI hr (by decide)), nI_clamp (show r < 2 ^ 31 by omega), e1, if_neg (nI_ge (by omega) (by omega)), gd_t (inb_nI (show j < 40 by omega) (by decide)), nI_clamp (show j < 2 ^ 31 by omega), nI_1]; rfl) (fun N y => by rw [fX5_mixInto_1_33, gd_t (inb_nI hr (by decide)), nI_clamp (show r < 2 ^ 31 by omega), e1, if_pos (nI_le (Nat.le_refl _) (by omega))]) s 0 FU y (by omega) (FU_lt (by omega))
    · exact adv_fin (f := fX8_digest_167 K (nI r) m) (step := fun j y => 31 * y + (c.1 (4 + r) j).toInt64) (fin := fun y => K y (nI r + 1)) s (fun N j y hj => by
        rw [fX8_digest_167, gd_t (inb_nI hr (by decide)), nI_clamp (show r < 2 ^ 31 by omega), e2, if_neg (nI_ge (by omega) (by omega)), l40, pk_mul, nI_add, gd_t (inb_nI (show 40 * r + j < 240 by omega) (by decide)), nI_clamp (show 40 * r + j < 2 ^ 31 by omega), nI_1, (h r hr).2.2 j (by omega)]; rfl) (fun N y => by rw [fX8_digest_167, gd_t (inb_nI hr (by decide)), nI_clamp (show r < 2 ^ 31 by omega), e2, if_pos (nI_le (Nat.le_refl _) (by omega))]) s 0 FU y (by omega) (FU_lt (by omega))
theorem dg_text {c m : Mm} (h : RelTexts c m) {r : Nat} (hr : r < 4) (y : Int64) : ∃ y', (∀ K : Int64 → Int32 → Option Int64, fX5_mixInto_10_33 K (nI r) c FU y 0 = K y' (nI r + 1)) ∧ (∀ K : Int64 → Int32 → Option Int64, fX8_digest_234 K (nI r) m FU y 0 = K y' (nI r + 1)) := by
  have hF : FU = 999999999999 + 1 := rfl
  rcases h.sz hr with ⟨e1, e2⟩ | ⟨s, hs, e1, e2⟩
  · refine ⟨y, fun K => ?_, fun K => ?_⟩
    · rw [hF, fX5_mixInto_10_33, gd_t (inb_nI hr (by decide)), nI_clamp (show r < 2 ^ 31 by omega), e1, if_pos (by decide)]
    · rw [hF, fX8_digest_234, gd_t (inb_nI hr (by decide)), nI_clamp (show r < 2 ^ 31 by omega), e2, if_pos (by decide)]
  · refine ⟨itp (fun j y => 31 * y + (c.1 (13 + r) j).toInt64) 0 s y, fun K => ?_, fun K => ?_⟩
    · exact adv_fin (f := fX5_mixInto_10_33 K (nI r) c) (step := fun j y => 31 * y + (c.1 (13 + r) j).toInt64) (fin := fun y => K y (nI r + 1)) s (fun N j y hj => by
        rw [fX5_mixInto_10_33, gd_t (inb_nI hr (by decide)), nI_clamp (show r < 2 ^ 31 by omega), e1, if_neg (nI_ge (by omega) (by omega)), gd_t (inb_nI (show j < 60 by omega) (by decide)), nI_clamp (show j < 2 ^ 31 by omega), nI_1]; rfl) (fun N y => by rw [fX5_mixInto_10_33, gd_t (inb_nI hr (by decide)), nI_clamp (show r < 2 ^ 31 by omega), e1, if_pos (nI_le (Nat.le_refl _) (by omega))]) s 0 FU y (by omega) (FU_lt (by omega))
    · exact adv_fin (f := fX8_digest_234 K (nI r) m) (step := fun j y => 31 * y + (c.1 (13 + r) j).toInt64) (fin := fun y => K y (nI r + 1)) s (fun N j y hj => by
        rw [fX8_digest_234, gd_t (inb_nI hr (by decide)), nI_clamp (show r < 2 ^ 31 by omega), e2, if_neg (nI_ge (by omega) (by omega)), l60, pk_mul, nI_add, gd_t (inb_nI (show 60 * r + j < 240 by omega) (by decide)), nI_clamp (show 60 * r + j < 2 ^ 31 by omega), nI_1, ((h r hr).2.2 j (by omega)).1]; rfl) (fun N y => by rw [fX8_digest_234, gd_t (inb_nI hr (by decide)), nI_clamp (show r < 2 ^ 31 by omega), e2, if_pos (nI_le (Nat.le_refl _) (by omega))]) s 0 FU y (by omega) (FU_lt (by omega))
theorem itp5 {σ : Type} (st : Nat → Nat → σ → σ) : ∀ k i y, itp (fun j y => st (j / 5) (j % 5) y) (5 * i) (5 * k) y = itp (fun i y => itp (fun a y => st i a y) 0 5 y) i k y
  | 0, i, y => rfl
  | k + 1, i, y => by
    have e : itp (fun j y => st (j / 5) (j % 5) y) (5 * i) (5 * (k + 1)) y = itp (fun j y => st (j / 5) (j % 5) y) (5 * i + 5) (5 * k) (st ((5 * i + 4) / 5) ((5 * i + 4) % 5) (st ((5 * i + 3) / 5) ((5 * i + 3) % 5) (st ((5 * i + 2) / 5) ((5 * i + 2) % 5) (st ((5 * i + 1) / 5) ((5 * i + 1) % 5) (st ((5 * i) / 5) ((5 * i) % 5) y))))) := rfl
    rw [e, show (5 * i + 4) / 5 = i by omega, show (5 * i + 4) % 5 = 4 by omega, show (5 * i + 3) / 5 = i by omega, show (5 * i + 3) % 5 = 3 by omega, show (5 * i + 2) / 5 = i by omega, show (5 * i + 2) % 5 = 2 by omega, show (5 * i + 1) / 5 = i by omega, show (5 * i + 1) % 5 = 1 by omega, show (5 * i) / 5 = i by omega, show (5 * i) % 5 = 0 by omega, show 5 * i + 5 = 5 * (i + 1) by omega, itp5 st k (i + 1)]
    rfl
theorem dg_say {F : Fam} {c : Mm} {d : Dyn} {n : Nat} (hF : FamOk F) (hc : FamC F c) (hd : DynC d c) (hb : Bd n d) (hn : n ≤ 60) {i : Nat} (hi : i < fQ F) (K : Int64 → Int32 → Option Int64) (y : Int64) : fX7_digest_83 K (nI i) c FU y 0 = K (itp (fun a y => 31 * y + (nI (asp F d i a)).toInt64) 0 5 y) (nI (i + 1)) := by
  have h := adv_fin (f := fX7_digest_83 K (nI i) c) (step := fun a y => 31 * y + (nI (asp F d i a)).toInt64) (fin := fun y => K y (nI i + 1)) 5 (fun N a y ha => by
    rw [fX7_digest_83, if_neg (show ¬ (4 : Int32) < nI a from Int32.not_lt.mpr (show nI a ≤ (4 : Int32) from nI_le (show a ≤ 4 by omega) (by decide))), bo_v (c_aspect hF hc hd hb hn hi ha), nI_1 a]; simp only [nm]) (fun N y => by rw [fX7_digest_83, if_pos (show (4 : Int32) < nI 5 by decide)]) 5 0 FU y (by omega) (FU_lt (by decide))
  rw [show (0 : Int32) = nI 0 from rfl, h, nI_1]
theorem lkab {α β σ : Type} {R : Option α → Option β → Prop} {f : Nat → σ → Int32 → Option α} {g : Nat → σ → Int32 → Option β} (e a b : Nat) (he : e < 1000000) (x0 y0 : Int32) (h0 : x0 = nI a) (h1 : y0 = nI b) (hs : ∀ N M j y, j < e → ∃ y', f (N + 1) y (nI (a + j)) = f N y' (nI (a + j + 1)) ∧ g (M + 1) y (nI (b + j)) = g M y' (nI (b + j + 1))) (hx : ∀ N M y, R (f (N + 1) y (nI (a + e))) (g (M + 1) y (nI (b + e)))) (y : σ) : R (f FU y x0) (g FU y y0) := by
  subst h0 h1
  exact lk (R := R) (f := f) (g := g) e a b hs hx e 0 FU FU y (by omega) (FU_lt (by omega)) (FU_lt (by omega))
theorem dg_T {c m : Mm} (h : Rel c m) (y : Int64) : SimL (bo (fX5_mixInto_10 y c) (fun r => some r)) (fX8_digest_212 m FU y 0) := by
  obtain ⟨F, n, hF, hc, hm, ⟨ho, hz, hd, hB⟩, hk⟩ := id h.1
  have hn := ho.1
  have hq := hF.q
  have hp := hF.p
  have hb := rep_Bd hF ho n (Nat.le_refl _)
  rw [bo_id]
  unfold fX5_mixInto_10 fX5_mixInto_10_E
  refine lk0 (R := SimL) (f := fX5_mixInto_10_5 c) (g := fX8_digest_212 m) 4 (by decide) (fun N M j y hj => ?_) (fun N M y => ?_) y
  · rw [fX5_mixInto_10_5, fX8_digest_212, if_neg (show ¬ (4 : Int32) ≤ nI j from nI_ge hj (by decide)), if_neg (show ¬ (4 : Int32) ≤ nI j from nI_ge hj (by decide)), gd_t (inb_nI hj (by decide)), gd_t (inb_nI hj (by decide)), nI_clamp (show j < 2 ^ 31 by omega), (h.2.2.1 j hj).1]
    simp only [nm]
    obtain ⟨y', a, b⟩ := dg_text h.2.2.1 hj (31 * y + (m.1 8 j).toInt64)
    rw [a, b, nI_1]
    exact ⟨_, rfl, rfl⟩
  · rw [fX5_mixInto_10_5, fX8_digest_212, if_pos (show (4 : Int32) ≤ nI 4 by decide), if_pos (show (4 : Int32) ≤ nI 4 by decide)]
    exact ⟨_, rfl, rfl⟩
theorem dg_R {c m : Mm} (h : Rel c m) (y : Int64) : SimL (bo (fX5_mixInto_1 y c) (fun r => bo (fX5_mixInto_10 r c) (fun r => some r))) (fX8_digest_144 m FU y 0) := by
  obtain ⟨F, n, hF, hc, hm, ⟨ho, hz, hd, hB⟩, hk⟩ := id h.1
  have hn := ho.1
  have hq := hF.q
  have hp := hF.p
  have hb := rep_Bd hF ho n (Nat.le_refl _)
  unfold fX5_mixInto_1 fX5_mixInto_1_E
  refine lk0 (R := fun a b => SimL (bo a (fun r => bo (fX5_mixInto_10 r c) (fun r => some r))) b) (f := fX5_mixInto_1_5 c) (g := fX8_digest_144 m) 6 (by decide) (fun N M j y hj => ?_) (fun N M y => ?_) y
  · rw [fX5_mixInto_1_5, fX8_digest_144, if_neg (show ¬ (6 : Int32) ≤ nI j from nI_ge hj (by decide)), if_neg (show ¬ (6 : Int32) ≤ nI j from nI_ge hj (by decide)), gd_t (inb_nI hj (by decide)), gd_t (inb_nI hj (by decide)), nI_clamp (show j < 2 ^ 31 by omega), (h.2.1 j hj).1]
    simp only [nm]
    obtain ⟨y', a, b⟩ := dg_row h.2.1 hj (31 * y + (m.1 6 j).toInt64)
    rw [a, b, nI_1]
    exact ⟨_, rfl, rfl⟩
  · rw [fX5_mixInto_1_5, fX8_digest_144, if_pos (show (6 : Int32) ≤ nI 6 by decide), if_pos (show (6 : Int32) ≤ nI 6 by decide)]
    exact dg_T h y
theorem dg_K {c m : Mm} (h : Rel c m) (y : Int64) : SimL (fX7_digest_136 c FU y 0) (fX8_digest_111 m FU y 1) := by
  obtain ⟨F, n, hF, hc, hm, ⟨ho, hz, hd, hB⟩, hk⟩ := id h.1
  have hn := ho.1
  have hq := hF.q
  have hp := hF.p
  have hb := rep_Bd hF ho n (Nat.le_refl _)
  have e411 : (411 : Int32) = nI 411 := rfl
  refine lkab (R := SimL) (f := fX7_digest_136 c) (g := fX8_digest_111 m) 3 0 1 (by decide) 0 1 rfl rfl (fun N M j y hj => ?_) (fun N M y => ?_) y
  · have ee : c.1 19 j = m.1 1 (411 * (j + 1)) := by
      rcases hk j hj with ⟨e1, e2⟩ | ⟨s, e1, e2, e3⟩
      · rw [e1, e2]
      · rw [e1, e3.1]
    rw [Nat.zero_add, fX7_digest_136, fX8_digest_111, if_neg (show ¬ (3 : Int32) ≤ nI j from nI_ge hj (by decide)), if_neg (show ¬ (4 : Int32) ≤ nI (1 + j) from nI_ge (show 1 + j < 4 by omega) (by decide)), gd_t (inb_nI hj (by decide)), nI_clamp (show j < 2 ^ 31 by omega), e411, pk_mul, i32_add0, gd_t (inb_nI (show 411 * (1 + j) < 1655 by omega) (by decide)), nI_clamp (by omega), ee, Nat.add_comm 1 j, nI_1, nI_1]
    exact ⟨_, rfl, rfl⟩
  · rw [fX7_digest_136, fX8_digest_111, if_pos (show (3 : Int32) ≤ nI (0 + 3) by decide), if_pos (show (4 : Int32) ≤ nI (1 + 3) by decide)]
    exact dg_R h y
theorem dgS_c {F : Fam} {c : Mm} {d : Dyn} {n : Nat} (hF : FamOk F) (hc : FamC F c) (hd : DynC d c) (hb : Bd n d) (hn : n ≤ 60) {fin : Int64 → Option Int64} (hx : ∀ y, (nm ((31 * y) + ((c.1 23 6).toInt64)) (fun y1_16 => fX7_digest_136 c FU y1_16 0)) = fin y) (y : Int64) : fX7_digest_69 c FU y (nI 0) = fin (itp (fun i y => itp (fun a y => 31 * y + (nI (asp F d i a)).toInt64) 0 5 y) 0 (fQ F) y) := by
  have hq := hF.q
  exact adv_fin (f := fX7_digest_69 c) (step := fun i y => itp (fun a y => 31 * y + (nI (asp F d i a)).toInt64) 0 5 y) (fin := fin) (fQ F) (fun N i y hi => by
    rw [fX7_digest_69, hc.2.1, if_neg (nI_ge (by omega) (by omega)), dg_say hF hc hd hb hn hi]) (fun N y => by rw [fX7_digest_69, hc.2.1, if_pos (nI_le (Nat.le_refl _) (by omega)), hx]) (fQ F) 0 FU y (by omega) (FU_lt (by omega))
theorem dgS_m {F : Fam} {m : Mm} {d : Dyn} {n : Nat} (hF : FamOk F) (hm : FamM F m) (hd : DynM 0 d (m.1 1)) (hb : Bd n d) (hn : n ≤ 60) {fin : Int64 → Option Int64} (hx : ∀ y, (nm ((31 * y) + ((m.1 0 7).toInt64)) (fun y1_19 => fX8_digest_111 m FU y1_19 1)) = fin y) (y : Int64) : fX8_digest_63 m FU y (nI 0) = fin (itp (fun i y => itp (fun a y => 31 * y + (nI (asp F d i a)).toInt64) 0 5 y) 0 (fQ F) y) := by
  have hq := hF.q
  have i5 := itp5 (fun i a y => 31 * y + (nI (asp F d i a)).toInt64) (fQ F) 0 y
  rw [← i5]
  exact adv_fin (f := fX8_digest_63 m) (step := fun j y => 31 * y + (nI (asp F d (j / 5) (j % 5))).toInt64) (fin := fin) (5 * fQ F) (fun N j y hj => by
    rw [fX8_digest_63, hm.2.1, nI_lit5, pk_mul, if_neg (nI_ge (by omega) (by omega)), pk_rem (by omega) (by decide) (by decide), pk_div (by omega) (by decide) (by decide), bo_v (m_toldOf hF hm hd hb hn (show j / 5 < fQ F by omega) (show j % 5 < 5 by omega)), nI_1]; simp only [nm]) (fun N y => by rw [fX8_digest_63, hm.2.1, nI_lit5, pk_mul, if_pos (nI_le (Nat.le_refl _) (by omega)), hx]) (5 * fQ F) (5 * 0) FU y (by omega) (FU_lt (by omega))
theorem nm_eq {α γ : Type} (v : α) (k : α → Option γ) : nm v k = k v := rfl
theorem dg_S {c m : Mm} (h : Rel c m) (y : Int64) : SimL (fX7_digest_69 c FU y 0) (fX8_digest_63 m FU y 0) := by
  obtain ⟨F, n, hF, hc, hm, ⟨ho, hz, hd, hB⟩, hk⟩ := id h.1
  have hn := ho.1
  have hb := rep_Bd hF ho n (Nat.le_refl _)
  have a := dgS_c (fin := fun y => nm ((31 * y) + ((c.1 23 6).toInt64)) (fun y1_16 => fX7_digest_136 c FU y1_16 0)) hF hc hd hb (by omega) (fun _ => rfl) y
  have b := dgS_m (fin := fun y => nm ((31 * y) + ((m.1 0 7).toInt64)) (fun y1_16 => fX8_digest_111 m FU y1_16 1)) hF hm hB.2.1 hb (by omega) (fun _ => rfl) y
  have e0 : (0 : Int32) = nI 0 := rfl
  have a' : fX7_digest_69 c FU y 0 = _ := (congrArg (fX7_digest_69 c FU y) e0).trans a
  have b' : fX8_digest_63 m FU y 0 = _ := (congrArg (fX8_digest_63 m FU y) e0).trans b
  rw [a', b', nm_eq, nm_eq, hc.2.2.1, hm.2.2.1]
  exact dg_K h _
theorem dg_P {c m : Mm} (h : Rel c m) (y : Int64) : SimL (fX7_digest_33 c FU y 0) (fX8_digest_33 m FU y 0) := by
  obtain ⟨F, n, hF, hc, hm, ⟨ho, hz, hd, hB⟩, hk⟩ := id h.1
  have hn := ho.1
  have hq := hF.q
  have hp := hF.p
  have hb := rep_Bd hF ho n (Nat.le_refl _)
  refine lk0 (R := SimL) (f := fX7_digest_33 c) (g := fX8_digest_33 m) (fP F) (by omega) (fun N M j y hj => ?_) (fun N M y => ?_) y
  · rw [fX7_digest_33, fX8_digest_33, hc.1, hm.1, if_neg (nI_ge (by omega) (by omega)), if_neg (nI_ge (by omega) (by omega)), gd_t (inb_nI (by omega) (by decide)), gd_t (inb_nI (by omega) (by decide)), nI_clamp (show j < 2 ^ 31 by omega), hc.2.2.2.1 j hj, hm.2.2.2.1 j hj, nI_1]
    exact ⟨_, rfl, rfl⟩
  · rw [fX7_digest_33, fX8_digest_33, hc.1, hm.1, if_pos (nI_le (Nat.le_refl _) (by omega)), if_pos (nI_le (Nat.le_refl _) (by omega))]
    exact dg_S h y
theorem sim_digest {c m : Mm} (h : Rel c m) : SimL (fX7_digest c) (fX8_digest m) := by
  obtain ⟨F, n, hF, hc, hm, ⟨ho, hz, hd, hB⟩, hk⟩ := id h.1
  have hn := ho.1
  have hq := hF.q
  have hp := hF.p
  unfold fX7_digest fX7_digest_E fX8_digest fX8_digest_E
  refine lk0 (R := SimL) (f := fX7_digest_6 c) (g := fX8_digest_6 m) 11 (by decide) (fun N M j y hj => ?_) (fun N M y => ?_) 17
  · obtain ⟨r, a, b⟩ := sim_countOf h hj
    rw [fX7_digest_6, fX8_digest_6, if_neg (show ¬ (10 : Int32) < nI j from Int32.not_lt.mpr (show nI j ≤ (10 : Int32) from nI_le (show j ≤ 10 by omega) (by decide))), if_neg (show ¬ (11 : Int32) ≤ nI j from nI_ge hj (by decide)), bo_v a, bo_v b, nI_1]
    exact ⟨_, rfl, rfl⟩
  · rw [fX7_digest_6, fX8_digest_6, if_pos (show (10 : Int32) < nI 11 by decide), if_pos (show (11 : Int32) ≤ nI 11 by decide)]
    exact dg_P h y

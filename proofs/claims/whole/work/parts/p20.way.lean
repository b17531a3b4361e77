/-! PURE: way, cuts, round -/
/-- what the ways change in the reference -/
def Fr13 (m m' : Mm) : Prop := (∀ p, p ≠ 13 → m'.1 p = m.1 p) ∧ m'.2 = m.2
theorem Fr13.trans {a b c : Mm} (h : Fr13 a b) (g : Fr13 b c) : Fr13 a c := ⟨fun p hp => (g.1 p hp).trans (h.1 p hp), g.2.trans h.2⟩
theorem Fr13.sc {m m' : Mm} (h : Fr13 m m') : ScM m m' := ⟨fun p h1 h2 => h.1 p (by omega), fun t ht => by rw [h.1 1 (by decide)], fun k hk => by rw [h.1 0 (by decide)], by rw [h.2]⟩
def exw (a s f K o : Nat) : Bool := !s.testBit o && (List.range K).any (fun k => k % 12 == o && (nw a s f (k / 12) && adj (k / 12) o))
def EE (a s f K o : Nat) : Int32 := if rch a s f o = true then DD a s f o else if exw a s f K o = true then nI (f + 1) else -9
section PW
variable {a s b : Nat}
theorem exw_succ (f K o : Nat) : exw a s f (K + 1) o = (exw a s f K o || (!s.testBit o && (K % 12 == o && (nw a s f (K / 12) && adj (K / 12) o)))) := by
  unfold exw
  rw [List.range_succ, List.any_append, Bool.and_or_distrib_left]
  congr 2
  simp
theorem EE_0 (f o : Nat) : EE a s f 0 o = DD a s f o := by
  unfold EE exw
  rw [List.range_zero, List.any_nil, Bool.and_false, if_neg (by decide : ¬ false = true)]
  by_cases h : rch a s f o = true
  · rw [if_pos h]
  · rw [if_neg h, DD_no h]
theorem EE_f {f K o : Nat} (hf : f < 50) : EE a s f K o = nI f ↔ nw a s f o = true := by
  unfold EE
  by_cases h : rch a s f o = true
  · rw [if_pos h]; exact DD_new (by omega)
  · rw [if_neg h]
    refine ⟨fun q => ?_, fun q => absurd (nw_rch q) h⟩
    by_cases g : exw a s f K o = true
    · rw [if_pos g, nI_eq (by omega) (by omega)] at q; omega
    · rw [if_neg g] at q; exact absurd q.symm (nI_ne9 (by omega))
theorem EE_9 {f K o : Nat} (hf : f < 50) : EE a s f K o = -9 ↔ (¬ rch a s f o = true ∧ ¬ exw a s f K o = true) := by
  unfold EE
  by_cases h : rch a s f o = true
  · rw [if_pos h, DD_9 (by omega)]
    exact ⟨fun q => absurd h q, fun q => absurd h q.1⟩
  · rw [if_neg h]
    by_cases g : exw a s f K o = true
    · rw [if_pos g]
      exact ⟨fun q => absurd q (nI_ne9 (by omega)), fun q => absurd g q.2⟩
    · rw [if_neg g]
      exact ⟨fun _ => ⟨h, g⟩, fun _ => rfl⟩
theorem EE_144 {f o : Nat} (ho : o < 12) : EE a s f 144 o = DD a s (f + 1) o := by
  unfold EE
  rw [DD]
  by_cases h : rch a s f o = true
  · rw [if_pos h, if_pos h]
  · rw [if_neg h, if_neg h]
    have e : exw a s f 144 o = true ↔ rch a s (f + 1) o = true := by
      unfold exw
      rw [Bool.and_eq_true, List.any_eq_true]
      refine ⟨fun ⟨g1, k, hk, g2⟩ => ?_, fun g => ?_⟩
      · rw [Bool.and_eq_true, Bool.and_eq_true] at g2
        have := List.mem_range.mp hk
        exact rch_next (nw_rch g2.2.1) (by omega) g2.2.2 (by simpa using g1)
      · rcases rch_step g with g | ⟨g1, j, hj, g2, g3⟩
        · exact absurd g h
        · refine ⟨by rw [g1]; rfl, 12 * j + o, List.mem_range.mpr (by omega), ?_⟩
          rw [show (12 * j + o) % 12 = o by omega, show (12 * j + o) / 12 = j by omega, g2, Bool.and_true]
          have : nw a s f j = true := by
            cases f with
            | zero => exact g3
            | succ f =>
              rw [nw, g3, Bool.true_and]
              by_cases q : rch a s f j = true
              · exact absurd (rch_next q hj g2 g1) h
              · simpa using q
          rw [this]; simp
    by_cases q : rch a s (f + 1) o = true
    · rw [if_pos q, if_pos (e.mpr q)]
    · rw [if_neg q, if_neg (fun g => q (e.mp g))]
theorem EE_same {f K o : Nat} (h : exw a s f (K + 1) o = exw a s f K o) : EE a s f (K + 1) o = EE a s f K o := by
  unfold EE; rw [h]
/-- one level -/
theorem m_level (ha : a < 12) (hs : s < 4096) {f : Nat} (hf : f < 12) (K : Int32 → Mm → Option (Int32 × Mm)) (x2 : Int32) : ∀ r k N (w : Mm), k + r = 144 → r < N → (∀ o, o < 12 → w.1 13 o = EE a s f k o) → ∃ w', fX8_wayBut_56 K x2 (nI s) (nI f) N (nI k) w = K (nI (f + 1)) w' ∧ (∀ o, o < 12 → w'.1 13 o = DD a s (f + 1) o) ∧ Fr13 w w' := by
  intro r
  induction r with
  | zero =>
    intro k N w hk hN hw
    obtain ⟨N, rfl⟩ : ∃ t, N = t + 1 := ⟨N - 1, by omega⟩
    have : k = 144 := by omega
    subst this
    rw [fX8_wayBut_56, if_pos (by decide), nI_1]
    exact ⟨w, rfl, fun o ho => by rw [hw o ho, EE_144 ho], fun _ _ => rfl, rfl⟩
  | succ r ih =>
    intro k N w hk hN hw
    obtain ⟨N, rfl⟩ : ∃ t, N = t + 1 := ⟨N - 1, by omega⟩
    have e12 : (12 : Int32) = nI 12 := rfl
    have h1 : k / 12 < 12 := by omega
    have h2 : k % 12 < 12 := by omega
    rw [fX8_wayBut_56, if_neg (show ¬ (144 : Int32) ≤ nI k from nI_ge (show k < 144 by omega) (by decide)), e12, pk_rem (by omega) (by decide) (by decide), pk_div (by omega) (by decide) (by decide)]
    simp only [nm]
    rw [gd_t (inb_nI h1 (by decide)), gd_t (inb_nI h2 (by decide)), nI_clamp (show k / 12 < 2 ^ 31 by omega), nI_clamp (show k % 12 < 2 ^ 31 by omega), hw _ h1, hw _ h2, bo_v (adj_m _ h1 _ h2), if_10, bo_v (has_m (by omega) (by omega)), if_10]
    unfold fX8_wayBut_132
    rw [nI_1, nI_1]
    have keep : (¬ (nw a s f (k / 12) = true ∧ EE a s f k (k % 12) = -9 ∧ adj (k / 12) (k % 12) = true ∧ s.testBit (k % 12) = false)) → ∃ w', fX8_wayBut_56 K x2 (nI s) (nI f) N (nI (k + 1)) w = K (nI (f + 1)) w' ∧ (∀ o, o < 12 → w'.1 13 o = DD a s (f + 1) o) ∧ Fr13 w w' := by
      intro hn
      refine ih (k + 1) N w (by omega) (by omega) (fun o ho => ?_)
      rw [hw o ho]
      by_cases e : k % 12 = o
      · subst e
        by_cases q : EE a s f k (k % 12) = -9
        · symm
          refine EE_same ?_
          rw [exw_succ]
          by_cases q2 : nw a s f (k / 12) = true
          · by_cases q3 : adj (k / 12) (k % 12) = true
            · have q4 : s.testBit (k % 12) = true := by
                by_cases g : s.testBit (k % 12) = true
                · exact g
                · exact absurd ⟨q2, q, q3, by simpa using g⟩ hn
              rw [q4]; simp
            · have q3 : adj (k / 12) (k % 12) = false := by simpa using q3
              rw [q3]; simp
          · have q2 : nw a s f (k / 12) = false := by simpa using q2
            rw [q2]; simp
        · unfold EE
          by_cases g : rch a s f (k % 12) = true
          · rw [if_pos g, if_pos g]
          · rw [if_neg g, if_neg g]
            have g2 : exw a s f k (k % 12) = true := by
              by_cases g2 : exw a s f k (k % 12) = true
              · exact g2
              · exact absurd ((EE_9 (by omega)).mpr ⟨g, g2⟩) q
            rw [if_pos g2, if_pos (by rw [exw_succ, g2]; rfl)]
      · symm
        refine EE_same ?_
        rw [exw_succ, beq_eq_false_iff_ne.mpr e]
        simp
    by_cases q1 : nw a s f (k / 12) = true
    · rw [if_pos ((EE_f (by omega)).mpr q1)]
      by_cases q2 : EE a s f k (k % 12) = -9
      · rw [if_pos q2]
        by_cases q3 : adj (k / 12) (k % 12) = true
        · rw [if_pos q3]
          by_cases q4 : s.testBit (k % 12) = true
          · rw [if_pos q4]
            exact keep (fun h => by rw [q4] at h; exact absurd h.2.2.2 (by decide))
          · rw [if_neg q4]
            have q4' : s.testBit (k % 12) = false := by simpa using q4
            obtain ⟨w', g1, g2, g3⟩ := ih (k + 1) N (sA w 13 (k % 12) (nI (f + 1))) (by omega) (by omega) (fun o ho => by
              rw [sA_eq]
              by_cases e : o = k % 12
              · subst e
                rw [upd_eq]
                have := ((EE_9 (by omega)).mp q2).1
                unfold EE
                rw [if_neg this, if_pos]
                rw [exw_succ, q4', q1, q3]
                simp
              · rw [upd_ne e, hw o ho]
                symm
                refine EE_same ?_
                rw [exw_succ, beq_eq_false_iff_ne.mpr (fun g => e g.symm)]
                simp)
            exact ⟨w', g1, g2, fun p hp => by rw [g3.1 p hp, sA_ne hp], g3.2⟩
        · rw [if_neg q3]
          exact keep (fun h => q3 h.2.2.1)
      · rw [if_neg q2]
        exact keep (fun h => q2 h.2.1)
    · rw [if_neg (fun g => q1 ((EE_f (by omega)).mp g))]
      exact keep (fun h => q1 h.1)
theorem m_levels (ha : a < 12) (hb : b < 12) (hs : s < 4096) : ∀ r f N (w : Mm), f + r = 12 → r < N → (∀ o, o < 12 → w.1 13 o = DD a s f o) → ∃ w', fX8_wayBut_46 (nI b) (nI s) N (nI f) w = some (frs a s b 12 0, w') ∧ Fr13 w w' := by
  intro r
  induction r with
  | zero =>
    intro f N w hf hN hw
    obtain ⟨N, rfl⟩ : ∃ t, N = t + 1 := ⟨N - 1, by omega⟩
    have : f = 12 := by omega
    subst this
    rw [fX8_wayBut_46, if_pos (by decide), gd_t (inb_nI hb (by decide)), nI_clamp (by omega), hw b hb, DD_12 hb]
    exact ⟨w, rfl, fun _ _ => rfl, rfl⟩
  | succ r ih =>
    intro f N w hf hN hw
    obtain ⟨N, rfl⟩ : ∃ t, N = t + 1 := ⟨N - 1, by omega⟩
    rw [fX8_wayBut_46, if_neg (show ¬ (12 : Int32) ≤ nI f from nI_ge (show f < 12 by omega) (by decide))]
    obtain ⟨w1, g1, g2, g3⟩ := m_level ha hs (f := f) (by omega) (fX8_wayBut_46 (nI b) (nI s) N) (nI b) 144 0 FU w (by omega) (FU_lt (by decide)) (fun o ho => by rw [hw o ho, EE_0])
    have g1' : fX8_wayBut_56 (fX8_wayBut_46 (nI b) (nI s) N) (nI b) (nI s) (nI f) FU 0 w = _ := g1
    rw [g1']
    obtain ⟨w2, k1, k2⟩ := ih (f + 1) N w1 (by omega) (by omega) g2
    exact ⟨w2, k1, g3.trans k2⟩
theorem m_way (ha : a < 12) (hb : b < 12) (hs : s < 4096) (m : Mm) : ∃ m', fX8_wayBut (nI a) (nI b) (nI s) m = some (frs a s b 12 0, m') ∧ Fr13 m m' := by
  unfold fX8_wayBut fX8_wayBut_E
  have h := lp_i (f := fX8_wayBut_3 (nI a) (nI b) (nI s)) (step := fun j w => sA w 13 (0 + j) (DD a s 0 j)) (fin := fX8_wayBut_46 (nI b) (nI s) FU 0) (fun _ _ => True) 12 (fun N j w hj _ => ⟨by
    rw [fX8_wayBut_3, if_neg (show ¬ (12 : Int32) ≤ nI j from nI_ge hj (by decide)), bo_v (has_m (by omega) (by omega)), if_10]
    unfold fX8_wayBut_34 fX8_wayBut_36
    simp only [nm]
    rw [gd_t (inb_nI hj (by decide)), nI_clamp (by omega), nI_1, Nat.zero_add, DD, rch, gd_t (inb_nI hj (by decide))]
    by_cases e : j = a
    · subst e
      rw [if_pos rfl]
      by_cases q : s.testBit j = true
      · rw [if_pos q, if_neg (by rw [q]; simp)]
      · rw [if_neg q, if_pos (by have q : s.testBit j = false := by simpa using q
                                 rw [q]; simp)]
        rfl
    · rw [if_neg (by rw [nI_eq (by omega) (by omega)]; exact e), if_neg (by rw [beq_eq_false_iff_ne.mpr e]; simp)], trivial⟩) (fun N w _ => by rw [fX8_wayBut_3, if_pos (by decide)]) 12 0 FU m rfl (FU_lt (by decide)) trivial
  rw [show fX8_wayBut_3 (nI a) (nI b) (nI s) FU 0 m = fX8_wayBut_3 (nI a) (nI b) (nI s) FU (nI 0) m from congrArg (fun z => fX8_wayBut_3 (nI a) (nI b) (nI s) FU z m) (show (0 : Int32) = nI 0 from rfl), h, itr_fill]
  obtain ⟨w', g1, g2⟩ := m_levels ha hb hs 12 0 FU (sF m 13 (fun t => if 0 + 0 ≤ t ∧ t < 0 + 0 + 12 then DD a s 0 (t - 0) else m.1 13 t)) (by omega) (FU_lt (by decide)) (fun o ho => by rw [sF_eq, if_pos (by omega), Nat.sub_zero])
  exact ⟨w', g1, fun p hp => by rw [g2.1 p hp, sF_ne hp], g2.2⟩
end PW
/-- the class asks, the reference may write into its scratch -/
def Sim2 (c : Mm) (x : Option Int32) (y : Option (Int32 × Mm)) : Prop := ∃ r m', x = some r ∧ y = some (r, m') ∧ Rel c m'
theorem Sim2.ret {c m : Mm} (h : Rel c m) (r : Int32) : Sim2 c (some r) (some (r, m)) := ⟨r, m, rfl, rfl, h⟩
theorem c_rooms (x y : Int32) : fX3_hasRooms x y = some (if inb x 12 = true ∧ inb y 12 = true then 1 else 0) := by
  unfold fX3_hasRooms fX3_hasRooms_E
  have a := num_eq x 12 12 rfl
  have b := num_eq y 12 12 rfl
  by_cases h1 : inb x 12 = true
  · rw [if_pos h1] at a
    have a1 : ¬ x < 0 := fun q => by rw [if_pos q] at a; exact absurd a (by decide)
    rw [if_neg a1] at a
    have a2 : ¬ 12 ≤ x := fun q => by rw [if_pos q] at a; exact absurd a (by decide)
    rw [if_neg a1, if_neg a2, b]
    by_cases h2 : inb y 12 = true
    · rw [if_pos h2, if_pos ⟨h1, h2⟩]
    · rw [if_neg h2, if_neg (fun q => h2 q.2)]
  · rw [if_neg h1] at a
    rw [if_neg (show ¬ (inb x 12 = true ∧ inb y 12 = true) from fun q => h1 q.1)]
    by_cases a1 : x < 0
    · rw [if_pos a1]
    · rw [if_neg a1] at a ⊢
      by_cases a2 : 12 ≤ x
      · rw [if_pos a2]
      · rw [if_neg a2] at a
        exact absurd a (by decide)
theorem rooms_m {α : Type} (x y : Int32) (A B : Option α) : bo (fX8_isRoom x) (fun r => if r = 0 then A else bo (fX8_isRoom y) (fun r => if r = 0 then A else B)) = if inb x 12 = true ∧ inb y 12 = true then B else A := by
  rw [bo_v (isRoom_eq x), bo_v (isRoom_eq y), if_10, if_10]
  by_cases h1 : inb x 12 = true
  · rw [if_pos h1]
    by_cases h2 : inb y 12 = true
    · rw [if_pos h2, if_pos ⟨h1, h2⟩]
    · rw [if_neg h2, if_neg (fun q => h2 q.2)]
  · rw [if_neg h1, if_neg (fun q => h1 q.1)]
theorem sim_way {c m : Mm} (h : Rel c m) (x1 x2 : Int32) : Sim2 c (fX7_way x1 x2 c) (fX8_way x1 x2 m) := by
  obtain ⟨F, n, hF, hc, hm, -⟩ := id h.1
  unfold fX7_way fX7_way_E fX8_way fX8_way_E
  rw [bo_v (c_rooms x1 x2), if_10, rooms_m, bd_id, bo_id, hc.2.2.1, hm.2.2.1]
  by_cases q : inb x1 12 = true ∧ inb x2 12 = true
  · rw [if_pos q, if_pos q]
    obtain ⟨a, ha, -, rfl⟩ := inb_ex q.1
    obtain ⟨b, hb, -, rfl⟩ := inb_ex q.2
    obtain ⟨m', g1, g2⟩ := m_way ha hb hF.2.2.1 m
    exact ⟨_, m', c_steps ha hb, g1, h.sc (ScC.rfl' c) g2.sc⟩
  · rw [if_neg q, if_neg q]; exact Sim2.ret h _
theorem sim_round {c m : Mm} (h : Rel c m) (x1 x2 : Int32) : Sim2 c (fX7_round x1 x2 c) (fX8_round x1 x2 m) := by
  obtain ⟨F, n, hF, hc, hm, -⟩ := id h.1
  unfold fX7_round fX7_round_E fX8_round fX8_round_E
  rw [bo_v (c_rooms x1 x2), if_10, rooms_m, hc.2.2.1, hm.2.2.1]
  by_cases q : inb x1 12 = true ∧ inb x2 12 = true
  · rw [if_pos q, if_pos q]
    obtain ⟨a, ha, -, rfl⟩ := inb_ex q.1
    obtain ⟨b, hb, -, rfl⟩ := inb_ex q.2
    obtain ⟨m', g1, g2⟩ := m_way ha hb hF.2.2.1 m
    have r1 := h.sc (ScC.rfl' c) g2.sc
    rw [bd_v g1, bo_v (c_steps ha hb)]
    by_cases e : frs a (fU F) b 12 0 = -9
    · rw [if_pos e, if_pos e]; exact Sim2.ret r1 _
    · rw [if_neg e, if_neg e]
      obtain ⟨m2, k1, k2⟩ := m_way ha hb (s := 0) (by decide) m'
      have k1' : fX8_wayBut (nI a) (nI b) 0 m' = _ := k1
      have c1 : fX3_steps (nI a) (nI b) 0 = _ := c_steps (s := 0) ha hb
      rw [bd_v k1', bo_v c1]
      exact Sim2.ret (r1.sc (ScC.rfl' c) k2.sc) _
  · rw [if_neg q, if_neg q]; exact Sim2.ret h _
def cutm (a b s : Nat) : Nat → Nat
  | 0 => 0
  | k + 1 => if frs a (s ||| 2 ^ k) b 12 0 = -9 then cutm a b s k ||| 2 ^ k else cutm a b s k
theorem cutm_bit (a b s : Nat) : ∀ k i, (cutm a b s k).testBit i = (decide (i < k) && decide (frs a (s ||| 2 ^ i) b 12 0 = -9))
  | 0, i => by rw [cutm]; simp
  | k + 1, i => by
    rw [cutm]
    by_cases q : frs a (s ||| 2 ^ k) b 12 0 = -9
    · rw [if_pos q, Nat.testBit_or, cutm_bit a b s k i, Nat.testBit_two_pow]
      by_cases e : k = i
      · subst e; rw [q]; simp
      · rw [decide_eq_false e, Bool.or_false]
        congr 1
        exact decide_eq_decide.mpr (by omega)
    · rw [if_neg q, cutm_bit a b s k i]
      by_cases e : k = i
      · subst e; rw [decide_eq_false q]; simp
      · congr 1
        exact decide_eq_decide.mpr (by omega)
theorem or_bit_same {s k : Nat} (h : s.testBit k = true) : s ||| 2 ^ k = s := by
  apply Nat.eq_of_testBit_eq
  intro i
  rw [Nat.testBit_or, Nat.testBit_two_pow]
  by_cases e : k = i
  · subst e; rw [h]; rfl
  · rw [decide_eq_false e, Bool.or_false]
theorem or_lt12 {s k : Nat} (hs : s < 4096) (hk : k < 12) : s ||| 2 ^ k < 4096 := Nat.or_lt_two_pow (n := 12) hs (Nat.pow_lt_pow_right (by decide) hk)
theorem c_cut {a b s : Nat} (ha : a < 12) (hb : b < 12) : ∀ r k N, k + r = 12 → r < N → fX3_onEachWay_18 (nI a) (nI b) (nI s) N (nI (cutm a b s k)) (nI k) = some (nI (cutm a b s 12)) := by
  intro r
  induction r with
  | zero =>
    intro k N hk hN
    obtain ⟨N, rfl⟩ : ∃ t, N = t + 1 := ⟨N - 1, by omega⟩
    have : k = 12 := by omega
    subst this
    rw [fX3_onEachWay_18, if_pos (by decide)]
  | succ r ih =>
    intro k N hk hN
    obtain ⟨N, rfl⟩ : ∃ t, N = t + 1 := ⟨N - 1, by omega⟩
    rw [fX3_onEachWay_18, if_neg (show ¬ (12 : Int32) ≤ nI k from nI_ge (show k < 12 by omega) (by decide)), sh1 k (by omega), fa_or, fa_or, bo_v (c_steps ha hb)]
    unfold fX3_onEachWay_48
    simp only [nm]
    rw [nI_1]
    have := ih (k + 1) N (by omega) (by omega)
    rw [cutm] at this
    by_cases q : frs a (s ||| 2 ^ k) b 12 0 = -9
    · rw [if_pos q] at this ⊢; exact this
    · rw [if_neg q] at this ⊢; exact this
theorem m_cut {a b s : Nat} (ha : a < 12) (hb : b < 12) (hs : s < 4096) : ∀ r k N (w : Mm), k + r = 12 → r < N → w.1 0 7 = nI s → ∃ w', fX8_cuts_38 (nI a) (nI b) N (nI (cutm a b s k)) (nI k) w = some (nI (nand (cutm a b s 12) s), w') ∧ Fr13 w w' := by
  intro r
  induction r with
  | zero =>
    intro k N w hk hN hw
    obtain ⟨N, rfl⟩ : ∃ t, N = t + 1 := ⟨N - 1, by omega⟩
    have : k = 12 := by omega
    subst this
    rw [fX8_cuts_38, if_pos (by decide), hw, nand_eq]
    exact ⟨w, rfl, fun _ _ => rfl, rfl⟩
  | succ r ih =>
    intro k N w hk hN hw
    obtain ⟨N, rfl⟩ : ∃ t, N = t + 1 := ⟨N - 1, by omega⟩
    obtain ⟨w1, g1, g2⟩ := m_way ha hb (or_lt12 hs (show k < 12 by omega)) w
    rw [fX8_cuts_38, if_neg (show ¬ (12 : Int32) ≤ nI k from nI_ge (show k < 12 by omega) (by decide)), sh1 k (by omega), hw, fa_or, bd_v g1]
    unfold fX8_cuts_74
    simp only [nm]
    rw [nI_1, or_0, fa_or]
    obtain ⟨w2, k1, k2⟩ := ih (k + 1) N w1 (by omega) (by omega) (by rw [g2.1 0 (by decide)]; exact hw)
    refine ⟨w2, ?_, g2.trans k2⟩
    rw [cutm] at k1
    by_cases q : frs a (s ||| 2 ^ k) b 12 0 = -9
    · rw [if_pos q] at k1 ⊢; exact k1
    · rw [if_neg q] at k1 ⊢; exact k1
theorem sim_cuts {c m : Mm} (h : Rel c m) (x1 x2 : Int32) : Sim2 c (fX7_cuts x1 x2 c) (fX8_cuts x1 x2 m) := by
  obtain ⟨F, n, hF, hc, hm, -⟩ := id h.1
  unfold fX7_cuts fX7_cuts_E fX8_cuts fX8_cuts_E fX3_onEachWay fX3_onEachWay_E
  rw [bo_v (c_rooms x1 x2), if_10, rooms_m, bo_id, hc.2.2.1, hm.2.2.1]
  by_cases q : inb x1 12 = true ∧ inb x2 12 = true
  · rw [if_pos q, if_pos q]
    obtain ⟨a, ha, -, rfl⟩ := inb_ex q.1
    obtain ⟨b, hb, -, rfl⟩ := inb_ex q.2
    obtain ⟨m', g1, g2⟩ := m_way ha hb hF.2.2.1 m
    have r1 := h.sc (ScC.rfl' c) g2.sc
    rw [bd_v g1, bo_v (c_steps ha hb)]
    by_cases e : frs a (fU F) b 12 0 = -9
    · rw [if_pos e, if_pos e]; exact Sim2.ret r1 _
    · rw [if_neg e, if_neg e]
      have c1 : fX3_onEachWay_18 (nI a) (nI b) (nI (fU F)) FU 0 0 = _ := c_cut (s := fU F) ha hb 12 0 FU (by omega) (FU_lt (by decide))
      obtain ⟨m2, k1, k2⟩ := m_cut ha hb hF.2.2.1 12 0 FU m' (by omega) (FU_lt (by decide)) (by rw [g2.1 0 (by decide)]; exact hm.2.2.1)
      have k1' : fX8_cuts_38 (nI a) (nI b) FU 0 0 m' = _ := k1
      have en : nand (cutm a b (fU F) 12) (fU F) = cutm a b (fU F) 12 := by
        apply Nat.eq_of_testBit_eq
        intro i
        by_cases hi : i < 12
        · rw [nand_bit (by omega)]
          by_cases t : (fU F).testBit i = true
          · rw [cutm_bit, or_bit_same t, decide_eq_false e]; simp
          · have t : (fU F).testBit i = false := by simpa using t
            rw [t]; simp
        · unfold nand
          rw [Nat.testBit_and, cutm_bit, decide_eq_false hi]; simp
      rw [c1, k1', en]
      exact Sim2.ret (r1.sc (ScC.rfl' c) k2.sc) _
  · rw [if_neg q, if_neg q]; exact Sim2.ret h _

/-! PURE: chances -/
def sm (f : Nat → Nat) : Nat → Nat
  | 0 => 0
  | k + 1 => sm f k + f k
theorem sm_z {f : Nat → Nat} {k : Nat} (h : ∀ j, k ≤ j → f j = 0) : ∀ r, sm f (k + r) = sm f k
  | 0 => rfl
  | r + 1 => by
    show sm f (k + r) + f (k + r) = _
    rw [sm_z h r, h _ (by omega), Nat.add_zero]
theorem sm_le {f g : Nat → Nat} : ∀ {k}, (∀ j, j < k → f j ≤ g j) → sm f k ≤ sm g k
  | 0, _ => Nat.le_refl _
  | k + 1, h => Nat.add_le_add (sm_le (fun j hj => h j (by omega))) (h k (by omega))
theorem sm_mul (f : Nat → Nat) (a : Nat) : ∀ k, sm (fun j => f j * a) k = sm f k * a
  | 0 => by rw [sm, sm, Nat.zero_mul]
  | k + 1 => by rw [sm, sm, sm_mul f a k, Nat.add_mul]
theorem sm_at (f : Nat → Nat) : ∀ {k j}, j < k → f j ≤ sm f k
  | k + 1, j, h => by
    rw [sm]
    by_cases e : j = k
    · subst e; omega
    · have := sm_at f (k := k) (j := j) (by omega); omega
def wt (p : Nat) : Nat → Nat → Nat
  | 0, j => if j = 0 then 1 else 0
  | n + 1, j => wt p n j * p + (if j = 0 then 0 else wt p n (j - 1) * (12 - p))
theorem wt_z (p : Nat) : ∀ n j, n < j → wt p n j = 0
  | 0, j, h => by rw [wt, if_neg (by omega)]
  | n + 1, j, h => by rw [wt, wt_z p n j (by omega), if_neg (by omega), wt_z p n (j - 1) (by omega)]; simp
theorem wt_sm (p : Nat) (n : Nat) : ∀ k, sm (wt p (n + 1)) (k + 1) = sm (wt p n) (k + 1) * p + sm (wt p n) k * (12 - p)
  | 0 => by
    show 0 + wt p (n + 1) 0 = (0 + wt p n 0) * p + 0 * (12 - p)
    rw [wt, if_pos rfl]; simp
  | k + 1 => by
    rw [sm, wt_sm p n k, wt, if_neg (by omega), Nat.add_sub_cancel]
    rw [show sm (wt p n) (k + 1 + 1) = sm (wt p n) (k + 1) + wt p n (k + 1) from rfl, show sm (wt p n) (k + 1) = sm (wt p n) k + wt p n k from rfl]
    simp only [Nat.add_mul]
    omega
theorem wt_sum {p : Nat} (hp : p ≤ 12) : ∀ n, n ≤ 12 → sm (wt p n) 13 = 12 ^ n
  | 0, _ => rfl
  | n + 1, h => by
    have e : sm (wt p n) 12 = sm (wt p n) 13 := by
      show _ = sm (wt p n) 12 + wt p n 12
      rw [wt_z p n 12 (by omega), Nat.add_zero]
    rw [wt_sm p n 12, e, wt_sum hp n (by omega), ← Nat.mul_add, show p + (12 - p) = 12 by omega, Nat.pow_succ]
theorem p12 {n : Nat} (h : n ≤ 12) : 12 ^ n ≤ 8916100448256 := by
  have := Nat.pow_le_pow_right (n := 12) (by decide) h
  have e : 12 ^ 12 = 8916100448256 := by decide
  omega
theorem wt_le {p n j : Nat} (hp : p ≤ 12) (hn : n ≤ 12) (hj : j < 13) : wt p n j ≤ 8916100448256 := by
  have h1 := sm_at (wt p n) hj
  rw [wt_sum hp n hn] at h1
  have := p12 hn
  omega
theorem nI_m1 {e : Nat} (h : 0 < e) : nI e + (-1) = nI (e - 1) := by
  have : nI e + (-1) = nI e - nI 1 := by rw [Int32.sub_eq_add_neg]; rfl
  rw [this, pk_sub h]
theorem vL_eq (f : Nat → Int64) (k : Nat) (x : Int64) : vp_updL f k x k = x := if_pos rfl
theorem vL_ne {f : Nat → Int64} {k j : Nat} {x : Int64} (h : j ≠ k) : vp_updL f k x j = f j := if_neg h
/-- longs alone are changed, not those of cell 0 -/
def FrL (c c' : Mm) : Prop := c'.1 = c.1 ∧ (∀ q, q ≠ 19 → q ≠ 41 → q ≠ 42 → c'.2.1 q = c.2.1 q) ∧ c'.2.2 = c.2.2
theorem FrL.trans {a b c : Mm} (h : FrL a b) (g : FrL b c) : FrL a c := ⟨g.1.trans h.1, fun q h1 h2 h3 => (g.2.1 q h1 h2 h3).trans (h.2.1 q h1 h2 h3), g.2.2.trans h.2.2⟩
theorem FrL.rfl' (a : Mm) : FrL a a := ⟨rfl, fun _ _ _ _ => rfl, rfl⟩
theorem FrL.set (w : Mm) {q : Nat} (k : Nat) (x : Int64) (hq : q = 19 ∨ q = 41 ∨ q = 42) : FrL w (sL w q k x) := ⟨rfl, fun p h1 h2 h3 => sL_ne (by omega), rfl⟩
theorem FrL.scC {c c' : Mm} (h : FrL c c') : ScC c c' := ⟨fun p _ => by rw [h.1], by rw [h.1], h.2.1 0 (by decide) (by decide) (by decide)⟩
theorem FrL.scM {c c' : Mm} (h : FrL c c') : ScM c c' := ⟨fun p _ _ => by rw [h.1], fun p _ => by rw [h.1], fun p _ => by rw [h.1], h.2.1 0 (by decide) (by decide) (by decide)⟩
section PX
variable {p : Nat}
theorem m12 (hp : p ≤ 12) : ((12 : Int32) - nI p).toInt64 = lN (12 - p) := by
  rw [show (12 : Int32) = nI 12 from rfl, pk_sub hp, nI_l (by omega)]
/-- the class: one day more -/
theorem c_day (hp : p ≤ 12) {d : Nat} (hd : d < 12) (x1 : Int32) (K : Int32 → Mm → Option Mm) : ∀ e N (w : Mm), e ≤ d + 1 → e < N → (∀ j, j < 13 → w.2.1 42 j = lN (if e < j then wt p (d + 1) j else wt p d j)) → ∃ w', fX0_spread_36 K x1 (nI p) (nI (d + 1)) N (nI e) w = K (nI (d + 2)) w' ∧ (∀ j, j < 13 → w'.2.1 42 j = lN (wt p (d + 1) j)) ∧ w'.2.1 41 1 = w.2.1 41 1 * 12 ∧ FrL w w' := by
  intro e
  induction e with
  | zero =>
    intro N w he hN hw
    obtain ⟨N, rfl⟩ : ∃ t, N = t + 1 := ⟨N - 1, by omega⟩
    rw [fX0_spread_36, if_pos (by decide)]
    simp only [nm]
    rw [nI_1]
    refine ⟨_, rfl, fun j hj => ?_, ?_, (FrL.set _ _ _ (by omega)).trans (FrL.set _ _ _ (by omega))⟩
    · rw [sL_ne (by decide), sL_eq]
      by_cases e0 : j = 0
      · subst e0
        rw [vL_eq, hw 0 (by decide), if_neg (by omega), nI_l (by omega), lN_mul, wt, if_pos rfl, Nat.add_zero]
      · rw [vL_ne e0, hw j hj, if_pos (by omega)]
    · rw [sL_eq, vL_eq, sL_ne (by decide)]
  | succ e ih =>
    intro N w he hN hw
    obtain ⟨N, rfl⟩ : ∃ t, N = t + 1 := ⟨N - 1, by omega⟩
    rw [fX0_spread_36, if_neg (show ¬ nI (e + 1) ≤ (0 : Int32) from nI_ge (show 0 < e + 1 by omega) (by omega)), gd_t (inb_nI (show e + 1 < 13 by omega) (by decide)), show nI (e + 1) - 1 = nI e from by rw [nI_lit1, pk_sub (by omega)]; rfl, gd_t (inb_nI (show e < 13 by omega) (by decide)), nI_clamp (show e + 1 < 2 ^ 31 by omega), nI_clamp (show e < 2 ^ 31 by omega), nI_m1 (by omega), Nat.add_sub_cancel, hw _ (by omega), hw _ (by omega), if_neg (by omega), if_neg (by omega), m12 hp, nI_l (by omega), lN_mul, lN_mul, lN_add]
    simp only [nm]
    obtain ⟨w', g1, g2, g3, g4⟩ := ih N (sL w 42 (e + 1) (lN (wt p d (e + 1) * p + wt p d e * (12 - p)))) (by omega) (by omega) (fun j hj => by
      rw [sL_eq]
      by_cases q : j = e + 1
      · subst q
        rw [vL_eq, if_pos (by omega), wt, if_neg (by omega), Nat.add_sub_cancel]
      · rw [vL_ne q, hw j hj]
        by_cases q2 : e < j
        · rw [if_pos q2, if_pos (by omega)]
        · rw [if_neg q2, if_neg (by omega)])
    exact ⟨w', g1, g2, by rw [g3, sL_ne (by decide)], (FrL.set _ _ _ (by omega)).trans g4⟩
theorem c_days2 (hp : p ≤ 12) {n : Nat} (hn : n ≤ 12) : ∀ r d N (w : Mm), d + r = n → r < N → (∀ j, j < 13 → w.2.1 42 j = lN (wt p d j)) → w.2.1 41 1 = lN (12 ^ d) → ∃ w', fX0_spread_22 (nI n) (nI p) N (nI (d + 1)) w = some w' ∧ (∀ j, j < 13 → w'.2.1 42 j = lN (wt p n j)) ∧ w'.2.1 41 1 = lN (12 ^ n) ∧ FrL w w' := by
  intro r
  induction r with
  | zero =>
    intro d N w hd hN hw h41
    obtain ⟨N, rfl⟩ : ∃ t, N = t + 1 := ⟨N - 1, by omega⟩
    have : d = n := by omega
    subst this
    rw [fX0_spread_22, if_pos ((nI_ltI (by omega) (by omega)).mpr (by omega))]
    exact ⟨w, rfl, hw, h41, FrL.rfl' w⟩
  | succ r ih =>
    intro d N w hd hN hw h41
    obtain ⟨N, rfl⟩ : ∃ t, N = t + 1 := ⟨N - 1, by omega⟩
    rw [fX0_spread_22, if_neg (fun q => by rw [nI_ltI (by omega) (by omega)] at q; omega), if_neg (show ¬ (12 : Int32) < nI (d + 1) from fun q => by have q : nI 12 < nI (d + 1) := q
                                                                                                                                                     rw [nI_ltI (by omega) (by omega)] at q; omega)]
    obtain ⟨w1, g1, g2, g3, g4⟩ := c_day hp (d := d) (by omega) (nI n) (fX0_spread_22 (nI n) (nI p) N) (d + 1) FU w (by omega) (FU_lt (by omega)) (fun j hj => by
      rw [hw j hj]
      by_cases q : d + 1 < j
      · rw [if_pos q, wt_z p d j (by omega), wt_z p (d + 1) j (by omega)]
      · rw [if_neg q])
    rw [g1]
    obtain ⟨w2, k1, k2, k3, k4⟩ := ih (d + 1) N w1 (by omega) (by omega) g2 (by rw [g3, h41, show (12 : Int64) = lN 12 from rfl, lN_mul, Nat.pow_succ])
    exact ⟨w2, k1, k2, k3, g4.trans k4⟩
theorem itrL {q e : Nat} {f : Nat → Int32 → Mm → Option Mm} {v : Nat → Int64} {fin : Mm → Option Mm} (hs : ∀ N j w, j < e → f (N + 1) (nI j) w = f N (nI (j + 1)) (sL w q j (v j))) (hx : ∀ N w, f (N + 1) (nI e) w = fin w) : ∀ k j N (w : Mm), j + k = e → k < N → (∀ i, i < j → w.2.1 q i = v i) → ∃ w', f N (nI j) w = fin w' ∧ (∀ i, i < e → w'.2.1 q i = v i) ∧ w'.1 = w.1 ∧ (∀ p, p ≠ q → w'.2.1 p = w.2.1 p) ∧ w'.2.2 = w.2.2 := by
  intro k
  induction k with
  | zero =>
    intro j N w hj hN hw
    obtain ⟨N, rfl⟩ : ∃ t, N = t + 1 := ⟨N - 1, by omega⟩
    have : j = e := by omega
    subst this
    exact ⟨w, hx N w, hw, rfl, fun _ _ => rfl, rfl⟩
  | succ k ih =>
    intro j N w hj hN hw
    obtain ⟨N, rfl⟩ : ∃ t, N = t + 1 := ⟨N - 1, by omega⟩
    obtain ⟨w', g1, g2, g3, g4, g5⟩ := ih (j + 1) N (sL w q j (v j)) (by omega) (by omega) (fun i hi => by
      rw [sL_eq]
      by_cases e : i = j
      · subst e; rw [vL_eq]
      · rw [vL_ne e, hw i (by omega)])
    exact ⟨w', by rw [hs N j w (by omega), g1], g2, g3, fun p hp => by rw [g4 p hp, sL_ne hp], g5⟩
theorem c_spread (hp : p ≤ 12) {n : Nat} (hn : n ≤ 12) (w : Mm) : ∃ w', fX0_spread (nI n) (nI p) w = some w' ∧ (∀ j, j < 13 → w'.2.1 42 j = lN (wt p n j)) ∧ w'.2.1 41 1 = lN (12 ^ n) ∧ FrL w w' := by
  unfold fX0_spread fX0_spread_E fJ7_fill_d0a16_42 fJ7_fill_d0a16_42_E
  obtain ⟨w1, g1, g2, g3, g4, g5⟩ := itrL (q := 42) (e := 13) (f := fJ7_fill_d0a16_42_6 0 13) (v := fun _ => 0) (fin := some) (fun N j w hj => by
    rw [fJ7_fill_d0a16_42_6, if_neg (show ¬ (13 : Int32) ≤ nI j from nI_ge hj (by decide)), gd_t (inb_nI hj (by decide)), nI_clamp (by omega), nI_1]; simp only [nm]) (fun N w => by rw [fJ7_fill_d0a16_42_6, if_pos (by decide)]) 13 0 FU w (by omega) (FU_lt (by decide)) (fun i hi => by omega)
  have g1' : fJ7_fill_d0a16_42_6 0 13 FU 0 w = some w1 := g1
  rw [bo_v g1']
  simp only [nm]
  obtain ⟨w2, k1, k2, k3, k4⟩ := c_days2 hp hn n 0 FU (sL (sL w1 42 0 1) 41 1 1) (by omega) (FU_lt (by omega)) (fun j hj => by
    rw [sL_ne (by decide), sL_eq]
    by_cases e : j = 0
    · subst e; rw [vL_eq]; rfl
    · rw [vL_ne e, g2 j hj, wt, if_neg e]; rfl) (by rw [sL_eq, vL_eq]; rfl)
  have fr : FrL w w1 := ⟨g3, fun q h1 h2 h3 => g4 q h3, g5⟩
  exact ⟨w2, k1, k2, k3, ((fr.trans (FrL.set _ _ _ (by omega))).trans (FrL.set _ _ _ (by omega))).trans k4⟩
/-- the reference: one day more -/
theorem m_day1 (hp : p ≤ 12) {d : Nat} (hd : d < 12) (x1 : Int32) (K : Int32 → Mm → Option Mm) : ∀ e N (w : Mm), e ≤ 13 → e < N → (∀ j, j < 13 → w.2.1 19 j = lN (if e ≤ j then wt p (d + 1) j else wt p d j)) → ∃ w', fX8_layWays_40 K x1 (nI p) (nI d) N (if e = 0 then -1 else nI (e - 1)) w = K (nI (d + 1)) w' ∧ (∀ j, j < 13 → w'.2.1 19 j = lN (wt p (d + 1) j)) ∧ FrL w w' := by
  intro e
  induction e with
  | zero =>
    intro N w he hN hw
    obtain ⟨N, rfl⟩ : ∃ t, N = t + 1 := ⟨N - 1, by omega⟩
    rw [fX8_layWays_40, if_pos rfl, if_pos (by decide), nI_1]
    exact ⟨w, rfl, fun j hj => by rw [hw j hj, if_pos (by omega)], FrL.rfl' w⟩
  | succ e ih =>
    intro N w he hN hw
    obtain ⟨N, rfl⟩ : ∃ t, N = t + 1 := ⟨N - 1, by omega⟩
    have step := ih N (sL w 19 e (lN (wt p (d + 1) e))) (by omega) (by omega) (fun j hj => by
      rw [sL_eq]
      by_cases q : j = e
      · subst q
        rw [vL_eq, if_pos (by omega)]
      · rw [vL_ne q, hw j hj]
        by_cases q2 : e ≤ j
        · rw [if_pos q2, if_pos (by omega)]
        · rw [if_neg q2, if_neg (by omega)])
    obtain ⟨w', g1, g2, g3⟩ := step
    refine ⟨w', ?_, g2, (FrL.set _ _ _ (by omega)).trans g3⟩
    rw [fX8_layWays_40, if_neg (show ¬ e + 1 = 0 by omega), Nat.add_sub_cancel, if_neg (nI_pos (by omega)), gd_t (inb_nI (show e < 13 by omega) (by decide)), nI_clamp (show e < 2 ^ 31 by omega), hw e (by omega), if_neg (show ¬ e + 1 ≤ e by omega), nI_l (by omega), lN_mul]
    unfold fX8_layWays_85
    rw [gd_t (inb_nI (show e < 13 by omega) (by decide)), nI_clamp (show e < 2 ^ 31 by omega)]
    simp only [nm]
    by_cases e0 : e = 0
    · subst e0
      rw [if_pos (by decide), lN_lit0, lN_add]
      rw [if_pos rfl] at g1
      rw [show nI 0 + (-1) = -1 from rfl, ← g1, wt, if_pos rfl]
    · rw [if_neg (show ¬ nI e ≤ (0 : Int32) from nI_ge (show 0 < e by omega) (by omega)), show nI e - 1 = nI (e - 1) from by rw [nI_lit1, pk_sub (by omega)], gd_t (inb_nI (show e - 1 < 13 by omega) (by decide)), nI_clamp (show e - 1 < 2 ^ 31 by omega), hw (e - 1) (by omega), if_neg (show ¬ e + 1 ≤ e - 1 by omega), m12 hp, lN_mul, lN_add, nI_m1 (by omega)]
      rw [if_neg e0] at g1
      rw [← g1, wt, if_neg e0, gd_t (inb_nI (show e < 13 by omega) (by decide))]
theorem m_days2 (hp : p ≤ 12) {n : Nat} (hn : n ≤ 12) : ∀ r d N (w : Mm), d + r = n → r < N → (∀ j, j < 13 → w.2.1 19 j = lN (wt p d j)) → ∃ w', fX8_layWays_31 (nI n) (nI p) N (nI d) w = some w' ∧ (∀ j, j < 13 → w'.2.1 19 j = lN (wt p n j)) ∧ FrL w w' := by
  intro r
  induction r with
  | zero =>
    intro d N w hd hN hw
    obtain ⟨N, rfl⟩ : ∃ t, N = t + 1 := ⟨N - 1, by omega⟩
    have : d = n := by omega
    subst this
    rw [fX8_layWays_31, if_pos (nI_le (Nat.le_refl _) (by omega))]
    exact ⟨w, rfl, hw, FrL.rfl' w⟩
  | succ r ih =>
    intro d N w hd hN hw
    obtain ⟨N, rfl⟩ : ∃ t, N = t + 1 := ⟨N - 1, by omega⟩
    rw [fX8_layWays_31, if_neg (nI_ge (by omega) (by omega))]
    obtain ⟨w1, g1, g2, g3⟩ := m_day1 hp (d := d) (by omega) (nI n) (fX8_layWays_31 (nI n) (nI p) N) 13 FU w (by omega) (FU_lt (by omega)) (fun j hj => by rw [hw j hj, if_neg (by omega)])
    rw [if_neg (by decide)] at g1
    have g1' : fX8_layWays_40 (fX8_layWays_31 (nI n) (nI p) N) (nI n) (nI p) (nI d) FU 12 w = _ := g1
    rw [g1']
    obtain ⟨w2, k1, k2, k3⟩ := ih (d + 1) N w1 (by omega) (by omega) g2
    exact ⟨w2, k1, k2, g3.trans k3⟩
theorem m_lay (hp : p ≤ 12) {n : Nat} (hn : n ≤ 12) (w : Mm) : ∃ w', fX8_layWays (nI n) (nI p) w = some w' ∧ (∀ j, j < 13 → w'.2.1 19 j = lN (wt p n j)) ∧ FrL w w' := by
  unfold fX8_layWays fX8_layWays_E
  obtain ⟨w1, g1, g2, g3, g4, g5⟩ := itrL (q := 19) (e := 13) (f := fX8_layWays_2 (nI n) (nI p)) (v := fun j => lN (wt p 0 j)) (fin := fX8_layWays_31 (nI n) (nI p) FU 0) (fun N j w hj => by
    rw [fX8_layWays_2, if_neg (show ¬ (13 : Int32) ≤ nI j from nI_ge hj (by decide))]
    unfold fX8_layWays_22
    simp only [nm]
    rw [gd_t (inb_nI hj (by decide)), nI_clamp (by omega), nI_1, gd_t (inb_nI hj (by decide)), wt]
    by_cases e : j = 0
    · subst e; rw [if_pos (by decide)]; rfl
    · rw [if_neg (nI_ne0 (by omega) (by omega)), if_neg e]; rfl) (fun N w => by rw [fX8_layWays_2, if_pos (by decide)]) 13 0 FU w (by omega) (FU_lt (by decide)) (fun i hi => by omega)
  have g1' : fX8_layWays_2 (nI n) (nI p) FU 0 w = _ := g1
  rw [g1']
  obtain ⟨w2, k1, k2, k3⟩ := m_days2 hp hn n 0 FU w1 (by omega) (FU_lt (by omega)) g2
  have fr : FrL w w1 := ⟨g3, fun q h1 h2 h3 => g4 q h1, g5⟩
  exact ⟨w2, k1, k2, fr.trans k3⟩
end PX

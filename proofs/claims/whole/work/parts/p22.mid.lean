/-! PURE: shares, mid, odds -/
theorem gcd_st (a b : Nat) : Nat.gcd a b = Nat.gcd b (a % b) := by
  rw [Nat.gcd_comm a b, Nat.gcd_rec b a, Nat.gcd_comm]
theorem lN0 {b : Nat} (hb : b < 2 ^ 63) : lg_cmp (lN b) 0 = 0 ↔ b = 0 := by
  rw [lg_eq, lN_lit0, pk_lEQ hb (by decide)]
theorem gdz {γ : Type} {b : Nat} {x : Option γ} (hb : b < 2 ^ 63) (h : ¬ b = 0) : gd (¬ lN b = 0) x = x := gd_t (fun q => h ((lN0 hb).mp (lg_eq.mpr q)))
theorem mod_half {a b : Nat} (h0 : 0 < b) (h : b < a) : 2 * (a % b) < a := by
  have h1 := Nat.mod_lt a h0
  have h2 := Nat.div_add_mod a b
  have h3 : 1 ≤ a / b := (Nat.le_div_iff_mul_le h0).mpr (by omega)
  have h4 : b * 1 ≤ b * (a / b) := Nat.mul_le_mul_left b h3
  omega
theorem c_gcd (y1 y3 : Int64) (w : Mm) : ∀ k t N a b, b < 2 ^ k → 2 * k + t ≤ 99 → 2 * k < N → a < 2 ^ 63 → b < 2 ^ 63 → fX7_tellShare_9 y1 y3 N (lN a) (lN b) (nI t) w = fX7_tellShare_44 y1 y3 (lN (Nat.gcd a b)) w := by
  intro k
  induction k with
  | zero =>
    intro t N a b hb ht hN ha hb2
    obtain ⟨N, rfl⟩ : ∃ t, N = t + 1 := ⟨N - 1, by omega⟩
    have : b = 0 := by simpa using hb
    subst this
    rw [fX7_tellShare_9, if_neg (show ¬ (100 : Int32) ≤ nI t from nI_ge (show t < 100 by omega) (by decide)), if_pos ((lN0 hb2).mpr rfl), Nat.gcd_zero_right]
  | succ k ih =>
    intro t N a b hb ht hN ha hb2
    obtain ⟨N, rfl⟩ : ∃ t, N = t + 1 := ⟨N - 1, by omega⟩
    rw [fX7_tellShare_9, if_neg (show ¬ (100 : Int32) ≤ nI t from nI_ge (show t < 100 by omega) (by decide))]
    by_cases e : b = 0
    · subst e
      rw [if_pos ((lN0 hb2).mpr rfl), Nat.gcd_zero_right]
    · rw [if_neg (fun q => e ((lN0 hb2).mp q)), gdz hb2 e]
      simp only [nm]
      rw [pk_lRem ha (by omega) hb2, nI_1]
      have hm := Nat.mod_lt a (show 0 < b by omega)
      obtain ⟨N, rfl⟩ : ∃ t, N = t + 1 := ⟨N - 1, by omega⟩
      rw [fX7_tellShare_9, if_neg (show ¬ (100 : Int32) ≤ nI (t + 1) from nI_ge (show t + 1 < 100 by omega) (by decide)), gcd_st a b]
      by_cases e2 : a % b = 0
      · rw [e2, if_pos ((lN0 (by decide)).mpr rfl), Nat.gcd_zero_right]
      · rw [if_neg (fun q => e2 ((lN0 (by omega)).mp q)), gdz (by omega) e2]
        simp only [nm]
        rw [pk_lRem hb2 (by omega) (by omega), nI_1, gcd_st b (a % b)]
        have hh := mod_half (show 0 < a % b by omega) hm
        have hpow : 2 ^ (k + 1) = 2 * 2 ^ k := by rw [Nat.pow_succ, Nat.mul_comm]
        exact ih (t + 1 + 1) N (a % b) (b % (a % b)) (by omega) (by omega) (by omega) (by omega) (by omega)
theorem m_gcd (y1 y3 : Int64) (w : Mm) : ∀ k N a b, b < 2 ^ k → 2 * k < N → a < 2 ^ 63 → b < 2 ^ 63 → 0 < Nat.gcd a b → fX8_tellParts_6 y1 y3 N (lN a) (lN b) w = some (1, sL (sL w 0 13 (y1 / lN (Nat.gcd a b))) 0 14 (y3 / lN (Nat.gcd a b))) := by
  intro k
  induction k with
  | zero =>
    intro N a b hb hN ha hb2 h0
    obtain ⟨N, rfl⟩ : ∃ t, N = t + 1 := ⟨N - 1, by omega⟩
    have : b = 0 := by simpa using hb
    subst this
    rw [Nat.gcd_zero_right] at h0
    rw [fX8_tellParts_6, if_pos ((lN0 hb2).mpr rfl), Nat.gcd_zero_right, gdz ha (by omega)]; simp only [nm]
  | succ k ih =>
    intro N a b hb hN ha hb2 h0
    obtain ⟨N, rfl⟩ : ∃ t, N = t + 1 := ⟨N - 1, by omega⟩
    rw [fX8_tellParts_6]
    by_cases e : b = 0
    · subst e
      rw [Nat.gcd_zero_right] at h0
      rw [if_pos ((lN0 hb2).mpr rfl), Nat.gcd_zero_right, gdz ha (by omega)]; simp only [nm]
    · rw [if_neg (fun q => e ((lN0 hb2).mp q)), gdz hb2 e]
      simp only [nm]
      rw [pk_lRem ha (by omega) hb2]
      have hm := Nat.mod_lt a (show 0 < b by omega)
      obtain ⟨N, rfl⟩ : ∃ t, N = t + 1 := ⟨N - 1, by omega⟩
      rw [gcd_st a b] at h0
      rw [fX8_tellParts_6, gcd_st a b]
      by_cases e2 : a % b = 0
      · rw [e2, if_pos ((lN0 (by decide)).mpr rfl), Nat.gcd_zero_right, gdz hb2 (by omega)]; simp only [nm]
      · rw [if_neg (fun q => e2 ((lN0 (by omega)).mp q)), gdz (by omega) e2]
        simp only [nm]
        rw [gcd_st b (a % b)] at h0
        rw [pk_lRem hb2 (by omega) (by omega), gcd_st b (a % b)]
        have hh := mod_half (show 0 < a % b by omega) hm
        have hpow : 2 ^ (k + 1) = 2 * 2 ^ k := by rw [Nat.pow_succ, Nat.mul_comm]
        exact ih N (a % b) (b % (a % b)) (by omega) (by omega) (by omega) (by omega) h0
theorem Rel.share {c m : Mm} (h : Rel c m) (u v : Int64) : Rel (sL (sL c 0 10 u) 0 11 v) (sL (sL m 0 13 u) 0 14 v) := by
  obtain ⟨r1, r2, r3, r4⟩ := h
  refine ⟨r1.cg (fun _ _ _ => rfl) (fun _ _ _ => rfl) rfl rfl rfl, r2.cg (fun _ _ _ => rfl) rfl rfl, r3.cg (fun _ _ _ => rfl) rfl rfl, r4.1, ?_, ?_, r4.2.2.2⟩
  · rw [sL_eq, vL_ne (by decide), sL_eq, vL_eq, sL_eq, vL_ne (by decide), sL_eq, vL_eq]
  · rw [sL_eq, vL_eq, sL_eq, vL_eq]
theorem sim_tell2 {c m : Mm} (h : Rel c m) {U L : Nat} (hU : U < 2 ^ 63) (hL : L < 2 ^ 44) (h0 : 0 < L) : ∃ c' m', fX7_tellShare (lN U) (lN L) c = some c' ∧ fX8_tellParts (lN U) (lN L) m = some (1, m') ∧ Rel c' m' := by
  unfold fX7_tellShare fX7_tellShare_E fX8_tellParts fX8_tellParts_E
  have hg : 0 < Nat.gcd U L := Nat.gcd_pos_of_pos_right U h0
  have hgl : Nat.gcd U L ≤ L := Nat.gcd_le_right U h0
  have e44 : (2 : Nat) ^ 44 = 17592186044416 := by decide
  have e63 : (2 : Nat) ^ 63 = 9223372036854775808 := by decide
  have a := m_gcd (lN U) (lN L) m 44 FU U L hL (FU_lt (by decide)) hU (by omega) hg
  have b : fX7_tellShare_9 (lN U) (lN L) FU (lN L) (lN U) 0 c = fX7_tellShare_44 (lN U) (lN L) (lN (Nat.gcd U L)) c := by
    have hF : FU = 999999999999 + 1 := rfl
    rw [hF, fX7_tellShare_9, if_neg (by decide)]
    by_cases e : U = 0
    · subst e
      rw [if_pos ((lN0 (by decide)).mpr rfl), Nat.gcd_zero_left]
    · rw [if_neg (fun q => e ((lN0 hU).mp q)), gdz hU e]
      simp only [nm]
      rw [pk_lRem (by omega) (by omega) hU, Nat.gcd_comm U L, gcd_st L U]
      have hm : L % U ≤ L := Nat.mod_le L U
      have := c_gcd (lN U) (lN L) c 44 1 999999999999 U (L % U) (by omega) (by decide) (by decide) hU (by omega)
      exact this
  refine ⟨_, _, ?_, a, h.share _ _⟩
  rw [b]
  unfold fX7_tellShare_44 fX7_tellShare_57
  rw [if_pos (lg_ge.mpr (show (1 : Int64) ≤ lN (Nat.gcd U L) from (pk_lLE (a := 1) (by decide) (by omega)).mpr hg)), gdz (by omega) (by omega)]
  rfl
theorem mx0 {S j : Nat} (hS : S < 2 ^ 30) (hj : j < 2 ^ 30) : (if 0 < (nI S - nI j) then nI S - nI j else 0) = nI (S - j) := by
  by_cases h : j < S
  · rw [pk_sub (by omega), if_pos (show (0 : Int32) < nI (S - j) from (nI_ltI (a := 0) (by decide) (by omega)).mpr (by omega))]
  · rw [if_neg, show S - j = 0 by omega]
    · rfl
    · intro q
      rw [Int32.lt_iff_toInt_lt, pk_sub_toInt hS hj] at q
      have : (0 : Int32).toInt = 0 := rfl
      omega
theorem m_behind {m : Mm} {S j : Nat} (hS : S < 2 ^ 30) (hj : j < 2 ^ 30) (h : m.1 1 2 = nI S) : fX8_strainBehind (nI j) m = some (nI (S - j)) := by
  unfold fX8_strainBehind fX8_strainBehind_E
  rw [h]
  by_cases q : S ≤ j
  · rw [if_pos (nI_le q (by omega)), show S - j = 0 by omega]; rfl
  · rw [if_neg (nI_ge (by omega) (by omega)), pk_sub (by omega)]
theorem fit_c (x y : Int32) : fX0_fit x y = some (if inb x 13 = true ∧ inb y 13 = true then 1 else 0) := by
  unfold fX0_fit fX0_fit_E
  rw [rng_d y 12 13 rfl, rng_d x 12 13 rfl]
  by_cases h1 : inb x 13 = true
  · rw [if_pos h1]
    by_cases h2 : inb y 13 = true
    · rw [if_pos h2, if_pos ⟨h1, h2⟩]
    · rw [if_neg h2, if_neg (fun q => h2 q.2)]
  · rw [if_neg h1, if_neg (fun q => h1 q.1)]
theorem fit_m {α : Type} (x y : Int32) (A B : Option α) : bo (fX8_in x.toInt64 0 12) (fun r => if r = 0 then A else bo (fX8_in y.toInt64 0 12) (fun r => if r = 0 then A else B)) = if inb x 13 = true ∧ inb y 13 = true then B else A := by
  rw [bo_v (in_n x 12 12 13 rfl rfl), bo_v (in_n y 12 12 13 rfl rfl), if_10, if_10]
  by_cases h1 : inb x 13 = true
  · rw [if_pos h1]
    by_cases h2 : inb y 13 = true
    · rw [if_pos h2, if_pos ⟨h1, h2⟩]
    · rw [if_neg h2, if_neg (fun q => h2 q.2)]
  · rw [if_neg h1, if_neg (fun q => h1 q.1)]
/-- a sum that the class makes over the eased days -/
theorem sm13 {f : Nat → Nat} {n : Nat} (hn : n ≤ 12) (h : ∀ j, n < j → f j = 0) : sm f (n + 1) = sm f 13 := by
  have := sm_z (f := f) (k := n + 1) (fun j hj => h j (by omega)) (12 - n)
  rw [← this, show n + 1 + (12 - n) = 13 by omega]
theorem sim_mid {c m : Mm} (h : Rel c m) (x1 x2 : Int32) : Sim (fX7_mid x1 x2 c) (fX8_mid x1 x2 m) := by
  obtain ⟨F, n', hF, hc, hm, ⟨ho, hz, hd, hB⟩, hk⟩ := id h.1
  have hn' := ho.1
  have hb := rep_Bd hF ho n' (Nat.le_refl _)
  have hS := hb.1
  have e2 : m.1 1 2 = nI (dS (rep F (c.1 29) n')) := hB.2.1.2.1
  have e7 : c.1 23 7 = nI (dS (rep F (c.1 29) n')) := hd.1
  generalize dS (rep F (c.1 29) n') = S at hS e2 e7
  unfold fX7_mid fX7_mid_E fX8_mid fX8_mid_E
  rw [bo_v (fit_c x1 x2), if_10, fit_m, bo_v (c_isEmpty hF hc), if_10]
  by_cases q : inb x1 13 = true ∧ inb x2 13 = true
  · rw [if_pos q, if_pos q]
    by_cases he : fQ F = 0
    · rw [if_pos he, if_pos ((q0 hF hm).mpr he)]; exact Sim.ret h
    · rw [if_neg he, if_neg (fun q => he ((q0 hF hm).mp q))]
      obtain ⟨n, hn, -, rfl⟩ := inb_ex q.1
      obtain ⟨p, hp, -, rfl⟩ := inb_ex q.2
      obtain ⟨c1, a1, a2, a3, a4⟩ := c_spread (p := p) (by omega) (n := n) (by omega) c
      obtain ⟨m1, b1, b2, b3⟩ := m_lay (p := p) (by omega) (n := n) (by omega) m
      have r1 := h.sc a4.scC b3.scM
      rw [bo_v a1, bo_v b1, a3, a4.1, e7]
      have cs : fX0_strainSum (nI n) (nI S) c1 = some (lN (sm (fun j => wt p n j * (S - j)) 13)) := by
        unfold fX0_strainSum fX0_strainSum_E
        rw [← sm13 (f := fun j => wt p n j * (S - j)) (n := n) (by omega) (fun j hj => by rw [wt_z p n j hj, Nat.zero_mul])]
        have lp : ∀ r j N, j + r = n + 1 → r < N → fX0_strainSum_5 (nI n) (nI S) c1 N (lN (sm (fun j => wt p n j * (S - j)) j)) (nI j) = some (lN (sm (fun j => wt p n j * (S - j)) (n + 1))) := by
          intro r
          induction r with
          | zero =>
            intro j N hj hN
            obtain ⟨N, rfl⟩ : ∃ t, N = t + 1 := ⟨N - 1, by omega⟩
            have : j = n + 1 := by omega
            subst this
            rw [fX0_strainSum_5, if_pos ((nI_ltI (by omega) (by omega)).mpr (by omega))]
          | succ r ih =>
            intro j N hj hN
            obtain ⟨N, rfl⟩ : ∃ t, N = t + 1 := ⟨N - 1, by omega⟩
            rw [fX0_strainSum_5, if_neg (fun q => by rw [nI_ltI (by omega) (by omega)] at q; omega), if_neg (show ¬ (12 : Int32) < nI j from fun q => absurd ((nI_ltI (a := 12) (by decide) (by omega)).mp q) (by omega)), gd_t (inb_nI (by omega) (by decide)), nI_clamp (by omega), a2 j (by omega), mx0 (by omega) (by omega), nI_l (by omega), lN_mul, lN_add, nI_1]
            exact ih (j + 1) N (by omega) (by omega)
        exact lp (n + 1) 0 FU (by omega) (FU_lt (by omega))
      have ms : fX8_mid_50 FU 0 0 0 m1 = fX8_tellParts (lN (sm (fun j => wt p n j * (S - j)) 13)) (lN (sm (wt p n) 13)) m1 := by
        have lp : ∀ r j N, j + r = 13 → r < N → fX8_mid_50 N (lN (sm (fun j => wt p n j * (S - j)) j)) (lN (sm (wt p n) j)) (nI j) m1 = fX8_tellParts (lN (sm (fun j => wt p n j * (S - j)) 13)) (lN (sm (wt p n) 13)) m1 := by
          intro r
          induction r with
          | zero =>
            intro j N hj hN
            obtain ⟨N, rfl⟩ : ∃ t, N = t + 1 := ⟨N - 1, by omega⟩
            have : j = 13 := by omega
            subst this
            rw [fX8_mid_50, if_pos (by decide), bd_id]
          | succ r ih =>
            intro j N hj hN
            obtain ⟨N, rfl⟩ : ∃ t, N = t + 1 := ⟨N - 1, by omega⟩
            rw [fX8_mid_50, if_neg (show ¬ (13 : Int32) ≤ nI j from nI_ge (show j < 13 by omega) (by decide)), gd_t (inb_nI (by omega) (by decide)), nI_clamp (by omega), bo_v (m_behind (S := S) (by omega) (by omega) (by rw [b3.1]; exact e2)), b2 j (by omega), nI_l (by omega), lN_mul]
            simp only [nm]
            rw [lN_add, lN_add, nI_1]
            exact ih (j + 1) N (by omega) (by omega)
        exact lp 13 0 FU (by omega) (FU_lt (by omega))
      have hU : sm (fun j => wt p n j * (S - j)) 13 ≤ 8916100448256 * 12000 := by
        have h1 := sm_le (f := fun j => wt p n j * (S - j)) (g := fun j => wt p n j * 12000) (k := 13) (fun j _ => Nat.mul_le_mul_left _ (by omega))
        rw [sm_mul, wt_sum (by omega) n (by omega)] at h1
        have := p12 (n := n) (by omega)
        exact Nat.le_trans h1 (Nat.mul_le_mul_right 12000 this)
      have hp12 := p12 (n := n) (by omega)
      have h12 : 0 < 12 ^ n := Nat.pow_pos (by decide)
      rw [bo_v cs, ms, wt_sum (by omega) n (by omega)]
      obtain ⟨c2, m2, k1, k2, k3⟩ := sim_tell2 r1 (U := sm (fun j => wt p n j * (S - j)) 13) (L := 12 ^ n) (Nat.lt_of_le_of_lt hU (by decide)) (Nat.lt_of_le_of_lt hp12 (by decide)) h12
      rw [bo_v k1, k2]
      exact Sim.ret k3
  · rw [if_neg q, if_neg q]; exact Sim.ret h
theorem spare_lt {B N X : Nat} (hB : B < 1000) (hN : N < 1000) (hX : X < 2 ^ 30) : (nI B - nI N < nI X) ↔ B < X + N := by
  rw [Int32.lt_iff_toInt_lt, pk_sub_toInt (by omega) (by omega), nI_toInt (by omega)]
  omega
theorem sim_odds {c m : Mm} (h : Rel c m) (x1 x2 x3 x4 : Int32) : Sim (fX7_odds x1 x2 x3 x4 c) (fX8_odds x1 x2 x3 x4 m) := by
  obtain ⟨F, n', hF, hc, hm, ⟨ho, hz, hd, hB⟩, hk⟩ := id h.1
  have hn' := ho.1
  have hP := hF.p
  have hQ := hF.q
  have hb := rep_Bd hF ho n' (Nat.le_refl _)
  have hS := hb.1
  have e2 : m.1 1 2 = nI (dS (rep F (c.1 29) n')) := hB.2.1.2.1
  have e7 : c.1 23 7 = nI (dS (rep F (c.1 29) n')) := hd.1
  unfold fX7_odds fX7_odds_E fX8_odds fX8_odds_E
  rw [bo_v (c_isOne hF hc x1), bo_v (m_isOne hF hm x1), if_10, if_10, bo_v (c_isSaying hF hc x2), bo_v (m_isSaying hF hm x2), if_10, if_10, bo_v (fit_c x3 x4), if_10, fit_m, bo_v (c_isOver hd hb), bo_v (m_isOver hB.2.1 hb), if_01, if_01, bo_v (c_isEmpty hF hc), if_10]
  by_cases h1 : inb x1 (fP F) = true
  · rw [if_pos h1, if_pos h1]
    by_cases h2 : inb x2 (fQ F) = true
    · rw [if_pos h2, if_pos h2]
      by_cases q : inb x3 13 = true ∧ inb x4 13 = true
      · rw [if_pos q, if_pos q]
        by_cases hv : dV (rep F (c.1 29) n') = 0
        · rw [if_pos hv, if_pos hv]
          obtain ⟨x, hx, -, rfl⟩ := inb_ex h1
          obtain ⟨i, hi, -, rfl⟩ := inb_ex h2
          obtain ⟨n, hn, -, rfl⟩ := inb_ex q.1
          obtain ⟨p, hp, -, rfl⟩ := inb_ex q.2
          rw [if_neg (show ¬ fQ F = 0 by omega)]
          obtain ⟨c1, a1, a2, a3, a4⟩ := c_spread (p := p) (by omega) (n := n) (by omega) c
          obtain ⟨m1, b1, b2, b3⟩ := m_lay (p := p) (by omega) (n := n) (by omega) m
          have r1 := h.sc a4.scC b3.scM
          have hc1 := hc.sc a4.scC
          have hm1 := hm.sc b3.scM
          have hd1 : DynC (rep F (c.1 29) n') c1 := by unfold DynC; rw [a4.1]; exact hd
          have hdm1 : DynM 0 (rep F (c.1 29) n') (m1.1 1) := by rw [b3.1]; exact hB.2.1
          have hnr := near_le hF hb hi
          have hBx := hF.2.2.2.1 x hx
          rw [bo_v a1, bo_v b1, gd_t (inb_nI (by omega) (by decide)), bo_v (c_near hF hc1 hd1 hb (by omega) hi), nI_clamp (by omega), hc1.2.2.2.1 x hx, a3, hd1.1]
          have mn : fX8_nearOf 0 (nI i) m1 = some (nI (near F (rep F (c.1 29) n') i)) := m_near (b := 0) hF hm1 hdm1 hb (by omega) (by decide) hi
          have mb : m1.1 2 x = nI (fB F x) := hm1.2.2.2.1 x hx
          have e2' : m1.1 1 2 = nI (dS (rep F (c.1 29) n')) := by rw [b3.1]; exact e2
          simp only [nm]
          generalize dS (rep F (c.1 29) n') = S at hS e2' 
          generalize near F (rep F (c.1 29) n') i = R at hnr mn
          generalize fB F x = B at hBx mb
          have cs : fX0_atMost (nI n) (nI S) (nI B - nI R) c1 = some (lN (sm (fun j => if B < S - j + R then 0 else wt p n j) 13)) := by
            unfold fX0_atMost fX0_atMost_E
            rw [← sm13 (f := fun j => if B < S - j + R then 0 else wt p n j) (n := n) (by omega) (fun j hj => by rw [wt_z p n j hj]; split <;> rfl)]
            have lp : ∀ r j N, j + r = n + 1 → r < N → fX0_atMost_6 (nI n) (nI S) (nI B - nI R) c1 N (lN (sm (fun j => if B < S - j + R then 0 else wt p n j) j)) (nI j) = some (lN (sm (fun j => if B < S - j + R then 0 else wt p n j) (n + 1))) := by
              intro r
              induction r with
              | zero =>
                intro j N hj hN
                obtain ⟨N, rfl⟩ : ∃ t, N = t + 1 := ⟨N - 1, by omega⟩
                have : j = n + 1 := by omega
                subst this
                rw [fX0_atMost_6, if_pos ((nI_ltI (by omega) (by omega)).mpr (by omega))]
              | succ r ih =>
                intro j N hj hN
                obtain ⟨N, rfl⟩ : ∃ t, N = t + 1 := ⟨N - 1, by omega⟩
                have := ih (j + 1) N (by omega) (by omega)
                rw [sm] at this
                rw [fX0_atMost_6, if_neg (fun q => by rw [nI_ltI (by omega) (by omega)] at q; omega), if_neg (show ¬ (12 : Int32) < nI j from fun q => absurd ((nI_ltI (a := 12) (by decide) (by omega)).mp q) (by omega)), mx0 (by omega) (by omega)]
                unfold fX0_atMost_43
                simp only [nm]
                by_cases g : B < S - j + R
                · rw [if_pos ((spare_lt (by omega) (by omega) (by omega)).mpr g), nI_1]
                  rw [if_pos g, Nat.add_zero] at this
                  exact this
                · rw [if_neg (fun q => g ((spare_lt (by omega) (by omega) (by omega)).mp q)), gd_t (inb_nI (by omega) (by decide)), nI_clamp (by omega), a2 j (by omega), lN_add, nI_1]
                  rw [if_neg g] at this
                  exact this
            exact lp (n + 1) 0 FU (by omega) (FU_lt (by omega))
          have ms : fX8_odds_69 (nI x) (nI i) FU 0 0 0 m1 = fX8_tellParts (lN (sm (fun j => if B < S - j + R then 0 else wt p n j) 13)) (lN (sm (wt p n) 13)) m1 := by
            have lp : ∀ r j N, j + r = 13 → r < N → fX8_odds_69 (nI x) (nI i) N (lN (sm (fun j => if B < S - j + R then 0 else wt p n j) j)) (lN (sm (wt p n) j)) (nI j) m1 = fX8_tellParts (lN (sm (fun j => if B < S - j + R then 0 else wt p n j) 13)) (lN (sm (wt p n) 13)) m1 := by
              intro r
              induction r with
              | zero =>
                intro j N hj hN
                obtain ⟨N, rfl⟩ : ∃ t, N = t + 1 := ⟨N - 1, by omega⟩
                have : j = 13 := by omega
                subst this
                rw [fX8_odds_69, if_pos (by decide), bd_id]
              | succ r ih =>
                intro j N hj hN
                obtain ⟨N, rfl⟩ : ∃ t, N = t + 1 := ⟨N - 1, by omega⟩
                have := ih (j + 1) N (by omega) (by omega)
                rw [sm, sm] at this
                rw [fX8_odds_69, if_neg (show ¬ (13 : Int32) ≤ nI j from nI_ge (show j < 13 by omega) (by decide)), bo_v (m_behind (S := S) (by omega) (by omega) e2'), bo_v mn, gd_t (inb_nI (show x < 4 by omega) (by decide)), nI_clamp (show x < 2 ^ 31 by omega), mb, nI_add]
                unfold fX8_odds_111
                simp only [nm]
                rw [gd_t (inb_nI (show j < 13 by omega) (by decide)), gd_t (inb_nI (show j < 13 by omega) (by decide)), nI_clamp (show j < 2 ^ 31 by omega), b2 j (by omega), lN_add, lN_add, nI_1]
                by_cases g : B < S - j + R
                · rw [if_pos ((nI_ltI (by omega) (by omega)).mpr g), lN_lit0, lN_add, Nat.add_zero]
                  rw [if_pos g, Nat.add_zero] at this
                  exact this
                · rw [if_neg (fun q => g ((nI_ltI (by omega) (by omega)).mp q)), gd_t (inb_nI (show j < 13 by omega) (by decide))]
                  rw [if_neg g] at this
                  exact this
            exact lp 13 0 FU (by omega) (FU_lt (by omega))
          have hU : sm (fun j => if B < S - j + R then 0 else wt p n j) 13 ≤ 8916100448256 := by
            have h1 := sm_le (f := fun j => if B < S - j + R then 0 else wt p n j) (g := wt p n) (k := 13) (fun j _ => by
              show (if B < S - j + R then 0 else wt p n j) ≤ wt p n j
              split <;> omega)
            rw [wt_sum (by omega) n (by omega)] at h1
            exact Nat.le_trans h1 (p12 (by omega))
          have hp12 := p12 (n := n) (by omega)
          have h12 : 0 < 12 ^ n := Nat.pow_pos (by decide)
          rw [bo_v cs, ms, wt_sum (by omega) n (by omega)]
          obtain ⟨c2, m2, k1, k2, k3⟩ := sim_tell2 r1 (U := sm (fun j => if B < S - j + R then 0 else wt p n j) 13) (L := 12 ^ n) (Nat.lt_of_le_of_lt hU (by decide)) (Nat.lt_of_le_of_lt hp12 (by decide)) h12
          rw [bo_v k1, k2]
          exact Sim.ret k3
        · rw [if_neg hv, if_neg hv]; exact Sim.ret h
      · rw [if_neg q, if_neg q]; exact Sim.ret h
    · rw [if_neg h2, if_neg h2]; exact Sim.ret h
  · rw [if_neg h1, if_neg h1]; exact Sim.ret h

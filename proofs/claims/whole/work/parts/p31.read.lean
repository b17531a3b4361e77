/-! PURE: reading a text -/
def DrC (F : Fam) (c : Mm) : Prop := c.1 31 0 = nI (fP F) ∧ c.1 31 2 = nI (fQ F) ∧ c.1 31 6 = nI (fU F) ∧ (∀ x, x < fP F → c.1 32 x = nI (fB F x)) ∧ ∀ i, i < fQ F → c.1 33 i = nI (fK F i) ∧ c.1 34 i = nI (fT F i) ∧ c.1 35 i = nI (fO F i)
def DrM (F : Fam) (m : Mm) : Prop := m.1 0 21 = nI (fP F) ∧ m.1 0 23 = nI (fQ F) ∧ m.1 0 24 = nI (fU F) ∧ (∀ x, x < fP F → m.1 11 x = nI (fB F x)) ∧ ∀ i, i < fQ F → m.1 12 (3 * i) = nI (fK F i) ∧ m.1 12 (3 * i + 1) = nI (fT F i) ∧ m.1 12 (3 * i + 2) = nI (fO F i)
def DrOk (F : Fam) : Prop := fP F ≤ 4 ∧ fQ F ≤ 6 ∧ fU F < 4096 ∧ (∀ x, x < fP F → fB F x ≤ 9) ∧ ∀ i, i < fQ F → fK F i ≤ 5 ∧ fT F i ≤ 9 ∧ fO F i ≤ 7
/-- the class's reader; the reference's, at place p -/
def RdC (c0 : Mm) (t n : Nat) (F : Fam) (c : Mm) : Prop := ScC c0 c ∧ c.1 30 2 = nI n ∧ c.2.2 = 13 + t ∧ DrC F c
def RdM (m0 : Mm) (t n p : Nat) (F : Fam) (m : Mm) : Prop := ScM m0 m ∧ m.1 0 17 = nI (60 * t) ∧ m.1 0 18 = nI p ∧ m.1 0 19 = nI n ∧ DrM F m
def TxB (c0 m0 : Mm) (t n : Nat) : Prop := t < 4 ∧ n ≤ 60 ∧ ∀ i, i < 60 → c0.1 (13 + t) i = m0.1 9 (60 * t + i) ∧ -128 ≤ (c0.1 (13 + t) i).toInt ∧ (c0.1 (13 + t) i).toInt < 128
theorem RdM.move {m0 : Mm} {t n p q : Nat} {F : Fam} {m : Mm} (h : RdM m0 t n p F m) {v : Int32} (hv : v = nI q) : RdM m0 t n q F (sA m 0 18 v) := by
  subst hv
  obtain ⟨⟨a1, a2, a3, a4⟩, h1, h2, h3, d1, d2, d3, d4, d5⟩ := h
  refine ⟨⟨fun p h1 h2 => by rw [sA_ne (by omega)]; exact a1 p h1 h2, fun t ht => by rw [sA_ne (by decide)]; exact a2 t ht, fun k hk => by rw [sA_eq, upd_ne (by omega)]; exact a3 k hk, a4⟩, by rw [sA_eq, upd_ne (by decide)]; exact h1, by rw [sA_eq, upd_eq], by rw [sA_eq, upd_ne (by decide)]; exact h3, by rw [sA_eq, upd_ne (by decide)]; exact d1, by rw [sA_eq, upd_ne (by decide)]; exact d2, by rw [sA_eq, upd_ne (by decide)]; exact d3, fun x hx => by rw [sA_ne (by decide)]; exact d4 x hx, fun i hi => by rw [sA_ne (by decide)]; exact d5 i hi⟩
section PB
variable {c0 m0 c m : Mm} {t n p : Nat} {F : Fam}
/-- a byte as the class sees it -/
theorem c_sign (hT : TxB c0 m0 t n) (hc : RdC c0 t n F c) (hp : p < 1000) : fX4_sign (nI p) c = some (if p < n then m0.1 9 (60 * t + p) else 1000) := by
  unfold fX4_sign fX4_sign_E
  obtain ⟨ht, hn, hb⟩ := hT
  rw [if_neg (nI_pos (by omega)), hc.2.1, hc.2.2.1]
  by_cases h : p < n
  · rw [if_neg (nI_ge h (by omega)), if_pos h, gd_t ⟨by omega, by omega⟩, gd_t (inb_nI (by omega) (by decide)), nI_clamp (by omega), hc.1.1 _ (by omega), (hb p (by omega)).1]
  · rw [if_pos (nI_le (by omega) (by omega)), if_neg h]
theorem m_here (hT : TxB c0 m0 t n) (hm : RdM m0 t n p F m) (hp : p < n) : fX8_here m = some (m0.1 9 (60 * t + p)) := by
  unfold fX8_here fX8_here_E
  obtain ⟨ht, hn, hb⟩ := hT
  rw [hm.2.1, hm.2.2.1, nI_add, gd_t (inb_nI (by omega) (by decide)), nI_clamp (by omega), hm.1.1 9 (by decide) (by decide)]
/-- a figure at a place -/
def fgo (m0 : Mm) (t n p most : Nat) : Option Nat := if p < n then (if 48 ≤ (m0.1 9 (60 * t + p)).toInt ∧ (m0.1 9 (60 * t + p)).toInt ≤ 48 + most then some ((m0.1 9 (60 * t + p)).toInt - 48).toNat else none) else none
theorem fgo_le {most v : Nat} (h : fgo m0 t n p most = some v) : v ≤ most ∧ p < n := by
  unfold fgo at h
  by_cases h1 : p < n
  · rw [if_pos h1] at h
    by_cases h2 : 48 ≤ (m0.1 9 (60 * t + p)).toInt ∧ (m0.1 9 (60 * t + p)).toInt ≤ 48 + most
    · rw [if_pos h2] at h
      injection h with h
      exact ⟨by omega, h1⟩
    · rw [if_neg h2] at h; cases h
  · rw [if_neg h1] at h; cases h
def gI (o : Option Nat) : Int32 := match o with
  | none => -1
  | some v => nI v
theorem sub48 {x : Int32} (h1 : -128 ≤ x.toInt) (h2 : x.toInt ≤ 1000) : (x - 48).toInt = x.toInt - 48 := by
  have e : (48 : Int32).toInt = 48 := rfl
  rw [Int32.toInt_sub, e]
  exact Int.bmod_eq_of_le (by omega) (by omega)
theorem c_fig (hT : TxB c0 m0 t n) (hc : RdC c0 t n F c) (hp : p < 1000) {most : Nat} {b : Int32} (hb : b = nI most) (hm9 : most ≤ 9) : fX4_figure (nI p) b c = some (gI (fgo m0 t n p most)) := by
  subst hb
  unfold fX4_figure fX4_figure_E
  rw [bo_v (c_sign hT hc hp)]
  simp only [nm]
  have h0 : (0 : Int32).toInt = 0 := rfl
  unfold fgo
  by_cases h : p < n
  · rw [if_pos h, if_pos h]
    obtain ⟨ht, hn, hb⟩ := hT
    obtain ⟨e, r1, r2⟩ := hb p (by omega)
    rw [e] at r1 r2
    have s48 := sub48 r1 (by omega)
    generalize m0.1 9 (60 * t + p) = x at r1 r2 s48
    by_cases g : 48 ≤ x.toInt ∧ x.toInt ≤ 48 + most
    · rw [if_pos g, if_neg (by rw [Int32.lt_iff_toInt_lt, s48, h0]; omega), if_neg (by rw [Int32.lt_iff_toInt_lt, s48, nI_toInt (by omega)]; omega)]
      show some (x - 48) = some (nI (x.toInt - 48).toNat)
      congr 1
      exact nI_of_toInt (by rw [s48]; omega) (by omega)
    · rw [if_neg g]
      by_cases g1 : x - 48 < 0
      · rw [if_pos g1]; rfl
      · rw [if_neg g1, if_pos]
        · rfl
        · rw [Int32.lt_iff_toInt_lt, s48, h0] at g1
          rw [Int32.lt_iff_toInt_lt, s48, nI_toInt (by omega)]
          omega
  · rw [if_neg h, if_neg h]
    have e : (1000 : Int32) - 48 = nI 952 := by decide
    rw [e, if_neg (nI_pos (by decide)), if_pos ((nI_ltI (by omega) (by decide)).mpr (by omega))]
    rfl
theorem m_isFig (hT : TxB c0 m0 t n) (hm : RdM m0 t n p F m) {most : Nat} {b : Int32} (hb : b = nI most) (hm9 : most ≤ 9) (hp : p < 1000) : fX8_isFigure 0 b m = some (if (fgo m0 t n p most).isSome = true then 1 else 0) := by
  subst hb
  unfold fX8_isFigure fX8_isFigure_E
  have hn := hT.2.1
  rw [hm.2.2.1, hm.2.2.2.1]
  by_cases h : p < n
  · rw [if_neg (nI_ge h (by omega)), bo_v (m_here hT hm h), show (48 : Int32) + 0 = nI 48 from rfl, show (48 : Int32) + nI most = nI (48 + most) from nI_add 48 most, bo_v (in_w _ _ _), if_10]
    unfold fgo
    rw [if_pos h]
    by_cases g : 48 ≤ (m0.1 9 (60 * t + p)).toInt ∧ (m0.1 9 (60 * t + p)).toInt ≤ 48 + most
    · rw [if_pos g, if_pos (by rw [Int32.le_iff_toInt_le, Int32.le_iff_toInt_le, nI_toInt (by omega), nI_toInt (by omega)]; omega)]; rfl
    · rw [if_neg g, if_neg (by rw [Int32.le_iff_toInt_le, Int32.le_iff_toInt_le, nI_toInt (by omega), nI_toInt (by omega)]; omega)]; rfl
  · rw [if_pos (nI_le (by omega) (by omega))]
    unfold fgo
    rw [if_neg h]; rfl
theorem m_fig (hT : TxB c0 m0 t n) (hm : RdM m0 t n p F m) {most : Nat} {b : Int32} (hb : b = nI most) (hm9 : most ≤ 9) (hp : p < 1000) : (fgo m0 t n p most = none ∧ fX8_figure 0 b m = some (-9, m)) ∨ ∃ v m', fgo m0 t n p most = some v ∧ fX8_figure 0 b m = some (nI v, m') ∧ RdM m0 t n (p + 1) F m' := by
  unfold fX8_figure fX8_figure_E
  rw [bo_v (m_isFig hT hm hb hm9 hp), if_10]
  cases hf : fgo m0 t n p most with
  | none =>
    rw [if_neg (by decide)]
    exact Or.inl ⟨rfl, rfl⟩
  | some v =>
    have hpn := (fgo_le hf).2
    rw [if_pos (by rfl)]
    simp only [nm]
    refine Or.inr ⟨v, sA m 0 18 (m.1 0 18 + 1), rfl, ?_, hm.move (by rw [hm.2.2.1, nI_1])⟩
    have hm' := hm.move (v := m.1 0 18 + 1) (q := p + 1) (by rw [hm.2.2.1, nI_1])
    obtain ⟨ht, hn, hbb⟩ := hT
    obtain ⟨e, r1, r2⟩ := hbb p (by omega)
    rw [e] at r1 r2
    have s48 := sub48 r1 (by omega)
    rw [hm'.2.1, hm'.2.2.1, nI_add, show nI (60 * t + (p + 1)) - 1 = nI (60 * t + p) from by rw [nI_lit1, pk_sub (by omega)]; rfl, gd_t (inb_nI (by omega) (by decide)), nI_clamp (by omega), hm'.1.1 9 (by decide) (by decide)]
    unfold fgo at hf
    rw [if_pos hpn] at hf
    generalize m0.1 9 (60 * t + p) = x at hf s48 r1 r2
    by_cases g : 48 ≤ x.toInt ∧ x.toInt ≤ 48 + most
    · rw [if_pos g] at hf
      injection hf with hf
      subst hf
      congr 2
      exact nI_of_toInt (by rw [s48]; omega) (by omega)
    · rw [if_neg g] at hf; cases hf
/-! blanks -/
def skp (m0 : Mm) (t n : Nat) : Nat → Nat → Nat
  | 0, p => p
  | r + 1, p => if p < n then (if m0.1 9 (60 * t + p) = 32 then skp m0 t n r (p + 1) else p) else p
theorem skp_le : ∀ r p, p ≤ n → p ≤ skp m0 t n r p ∧ skp m0 t n r p ≤ n
  | 0, p, h => ⟨Nat.le_refl _, h⟩
  | r + 1, p, h => by
    rw [skp]
    by_cases h1 : p < n
    · rw [if_pos h1]
      by_cases h2 : m0.1 9 (60 * t + p) = 32
      · rw [if_pos h2]
        have := skp_le r (p + 1) (by omega)
        omega
      · rw [if_neg h2]; omega
    · rw [if_neg h1]; omega
theorem c_skip (hT : TxB c0 m0 t n) (hc : RdC c0 t n F c) : ∀ r p N, p + r = n → r < N → fX4_behindBlanks_2 c N (nI p) = some (nI (skp m0 t n r p)) := by
  have hn := hT.2.1
  intro r
  induction r with
  | zero =>
    intro p N hp hN
    obtain ⟨N, rfl⟩ : ∃ t, N = t + 1 := ⟨N - 1, by omega⟩
    rw [fX4_behindBlanks_2, hc.2.1, if_pos (nI_le (by omega) (by omega)), skp]
  | succ r ih =>
    intro p N hp hN
    obtain ⟨N, rfl⟩ : ∃ t, N = t + 1 := ⟨N - 1, by omega⟩
    rw [fX4_behindBlanks_2, hc.2.1, if_neg (nI_ge (by omega) (by omega)), bo_v (c_sign hT hc (by omega)), if_pos (show p < n by omega), skp, if_pos (show p < n by omega)]
    by_cases h : m0.1 9 (60 * t + p) = 32
    · rw [if_pos h, if_pos h, nI_1]
      exact ih (p + 1) N (by omega) (by omega)
    · rw [if_neg h, if_neg h]
theorem m_skip (hT : TxB c0 m0 t n) : ∀ r p N (m : Mm), p + r = n → r < N → RdM m0 t n p F m → ∃ m', fX8_skip_0 N m = some m' ∧ RdM m0 t n (skp m0 t n r p) F m' := by
  have hn := hT.2.1
  intro r
  induction r with
  | zero =>
    intro p N m hp hN hm
    obtain ⟨N, rfl⟩ : ∃ t, N = t + 1 := ⟨N - 1, by omega⟩
    rw [fX8_skip_0, hm.2.2.1, hm.2.2.2.1, if_pos (nI_le (by omega) (by omega)), skp]
    exact ⟨m, rfl, hm⟩
  | succ r ih =>
    intro p N m hp hN hm
    obtain ⟨N, rfl⟩ : ∃ t, N = t + 1 := ⟨N - 1, by omega⟩
    rw [fX8_skip_0, hm.2.2.1, hm.2.2.2.1, if_neg (nI_ge (by omega) (by omega)), bo_v (m_here hT hm (by omega)), skp, if_pos (show p < n by omega)]
    by_cases h : m0.1 9 (60 * t + p) = 32
    · rw [if_pos h, if_pos h]
      simp only [nm]
      exact ih (p + 1) N _ (by omega) (by omega) (hm.move (by rw [nI_1]))
    · rw [if_neg h, if_neg h]
      exact ⟨m, rfl, hm⟩
theorem m_skip1 (hT : TxB c0 m0 t n) (hm : RdM m0 t n p F m) (hp : p ≤ n) : ∃ m', fX8_skip m = some m' ∧ RdM m0 t n (skp m0 t n (n - p) p) F m' := by
  have hn := hT.2.1
  have e : fX8_skip m = fX8_skip_0 (FU + 1) m := rfl
  rw [e]
  exact m_skip hT (n - p) p (FU + 1) m (by omega) (by have := FU_lt (k := n - p) (by omega); omega) hm
theorem c_skip1 (hT : TxB c0 m0 t n) (hc : RdC c0 t n F c) (hp : p ≤ n) : fX4_behindBlanks (nI p) c = some (nI (skp m0 t n (n - p) p)) := by
  have hn := hT.2.1
  exact c_skip hT hc (n - p) p FU (by omega) (FU_lt (by omega))
/-- what a reading ends with -/
def rv (b : Bool) (q : Nat) : Int32 := if b = true then nI q else -1 - nI q
def Out (c0 m0 : Mm) (t n : Nat) (p : Nat) (x y : Option (Int32 × Mm)) : Prop := ∃ b q F' c' m', x = some (rv b q, c') ∧ y = some ((if b = true then 1 else 0), m') ∧ RdC c0 t n F' c' ∧ RdM m0 t n q F' m' ∧ DrOk F' ∧ q < 100 ∧ (b = true → p + 3 ≤ q ∧ q ≤ n ∧ 0 < fP F')
theorem kind_eq : ∀ x : Int32, ∃ o : Option Nat, fX4_kindOf x = some (gI o) ∧ fX8_kindOfLetter x = some (match o with | none => -9 | some k => nI k) ∧ ∀ k, o = some k → k ≤ 5 := by
  intro x
  have hF : FU = 999999999992 + 1 + 1 + 1 + 1 + 1 + 1 + 1 + 1 := rfl
  unfold fX4_kindOf fX4_kindOf_E fX8_kindOfLetter fX8_kindOfLetter_E
  rw [hF]
  have e0 : stL (0 : Int32).toNatClampNeg = 115 := rfl
  have e1 : stL ((0 : Int32) + 1).toNatClampNeg = 104 := rfl
  have e2 : stL ((0 : Int32) + 1 + 1).toNatClampNeg = 103 := rfl
  have e3 : stL ((0 : Int32) + 1 + 1 + 1).toNatClampNeg = 106 := rfl
  have e4 : stL ((0 : Int32) + 1 + 1 + 1 + 1).toNatClampNeg = 119 := rfl
  have e5 : stL ((0 : Int32) + 1 + 1 + 1 + 1 + 1).toNatClampNeg = 112 := rfl
  rw [fX4_kindOf_2, if_neg (by decide), gd_t (by decide), e0]
  by_cases h0 : x = 115
  · rw [if_pos h0.symm, if_pos h0]; exact ⟨some 0, rfl, rfl, fun k hk => by injection hk with hk; omega⟩
  · rw [if_neg (fun q => h0 q.symm), if_neg h0, fX4_kindOf_2, if_neg (by decide), gd_t (by decide), e1]
    by_cases h1 : x = 104
    · rw [if_pos h1.symm, if_pos h1]; exact ⟨some 1, rfl, rfl, fun k hk => by injection hk with hk; omega⟩
    · rw [if_neg (fun q => h1 q.symm), if_neg h1, fX4_kindOf_2, if_neg (by decide), gd_t (by decide), e2]
      by_cases h2 : x = 103
      · rw [if_pos h2.symm, if_pos h2]; exact ⟨some 2, rfl, rfl, fun k hk => by injection hk with hk; omega⟩
      · rw [if_neg (fun q => h2 q.symm), if_neg h2, fX4_kindOf_2, if_neg (by decide), gd_t (by decide), e3]
        by_cases h3 : x = 106
        · rw [if_pos h3.symm, if_pos h3]; exact ⟨some 3, rfl, rfl, fun k hk => by injection hk with hk; omega⟩
        · rw [if_neg (fun q => h3 q.symm), if_neg h3, fX4_kindOf_2, if_neg (by decide), gd_t (by decide), e4]
          by_cases h4 : x = 119
          · rw [if_pos h4.symm, if_pos h4]; exact ⟨some 4, rfl, rfl, fun k hk => by injection hk with hk; omega⟩
          · rw [if_neg (fun q => h4 q.symm), if_neg h4, fX4_kindOf_2, if_neg (by decide), gd_t (by decide), e5]
            by_cases h5 : x = 112
            · rw [if_pos h5.symm, if_pos h5]; exact ⟨some 5, rfl, rfl, fun k hk => by injection hk with hk; omega⟩
            · rw [if_neg (fun q => h5 q.symm), if_neg h5, fX4_kindOf_2, if_pos (by decide)]; exact ⟨none, rfl, rfl, fun k hk => by cases hk⟩
theorem Out.fail (hc : RdC c0 t n F c) (q : Nat) (hm : RdM m0 t n q F m) (hF : DrOk F) (hq : q < 100) (p : Nat) : Out c0 m0 t n p (some (-1 - nI q, c)) (some (0, m)) := ⟨false, q, F, c, m, rfl, rfl, hc, hm, hF, hq, fun h => by cases h⟩
/-- the draft with one saying more -/
def addS (F : Fam) (k s o : Nat) : Fam := (fP F, fQ F + 1, fU F, fB F, (fun i => if i = fQ F then k else fK F i), (fun i => if i = fQ F then s else fT F i), (fun i => if i = fQ F then o else fO F i))
theorem addS_c (hc : RdC c0 t n F c) (k s o : Nat) : RdC c0 t n (addS F k s o) (sA (sA (sA (sA c 33 (fQ F) (nI k)) 34 (fQ F) (nI s)) 35 (fQ F) (nI o)) 31 2 (nI (fQ F + 1))) := by
  obtain ⟨⟨a1, a2, a3⟩, h1, h2, d1, d2, d3, d4, d5⟩ := hc
  refine ⟨⟨fun p hp => by rw [sA_ne (by omega), sA_ne (by omega), sA_ne (by omega), sA_ne (by omega)]; exact a1 p hp, by rw [sA_ne (by decide), sA_ne (by decide), sA_ne (by decide), sA_ne (by decide)]; exact a2, a3⟩, by rw [sA_ne (by decide), sA_ne (by decide), sA_ne (by decide), sA_ne (by decide)]; exact h1, h2, ?_, ?_, ?_, fun x hx => ?_, fun i hi => ⟨?_, ?_, ?_⟩⟩
  · rw [sA_eq, upd_ne (by decide), sA_ne (by decide), sA_ne (by decide), sA_ne (by decide)]; exact d1
  · rw [sA_eq, upd_eq]; rfl
  · rw [sA_eq, upd_ne (by decide), sA_ne (by decide), sA_ne (by decide), sA_ne (by decide)]; exact d3
  · rw [sA_ne (by decide), sA_ne (by decide), sA_ne (by decide), sA_ne (by decide)]; exact d4 x hx
  · have hi : i < fQ F + 1 := hi
    rw [sA_ne (by decide), sA_ne (by decide), sA_ne (by decide), sA_eq]
    show _ = nI (if i = fQ F then k else fK F i)
    by_cases e : i = fQ F
    · rw [if_pos e, e, upd_eq]
    · rw [if_neg e, upd_ne e]; exact (d5 i (by omega)).1
  · have hi : i < fQ F + 1 := hi
    rw [sA_ne (by decide), sA_ne (by decide), sA_eq]
    show _ = nI (if i = fQ F then s else fT F i)
    by_cases e : i = fQ F
    · rw [if_pos e, e, upd_eq]
    · rw [if_neg e, upd_ne e, sA_ne (by decide)]; exact (d5 i (by omega)).2.1
  · have hi : i < fQ F + 1 := hi
    rw [sA_ne (by decide), sA_eq]
    show _ = nI (if i = fQ F then o else fO F i)
    by_cases e : i = fQ F
    · rw [if_pos e, e, upd_eq]
    · rw [if_neg e, upd_ne e, sA_ne (by decide), sA_ne (by decide)]; exact (d5 i (by omega)).2.2
theorem addS_m (hm : RdM m0 t n p F m) (k s o : Nat) : RdM m0 t n p (addS F k s o) (sA (sA (sA (sA m 12 (3 * fQ F) (nI k)) 12 (3 * fQ F + 1) (nI s)) 12 (3 * fQ F + 2) (nI o)) 0 23 (nI (fQ F + 1))) := by
  obtain ⟨⟨a1, a2, a3, a4⟩, h1, h2, h3, d1, d2, d3, d4, d5⟩ := hm
  have z : ∀ f, f ≠ 23 → (sA (sA (sA (sA m 12 (3 * fQ F) (nI k)) 12 (3 * fQ F + 1) (nI s)) 12 (3 * fQ F + 2) (nI o)) 0 23 (nI (fQ F + 1))).1 0 f = m.1 0 f := fun f hf => by rw [sA_eq, upd_ne hf, sA_ne (by decide), sA_ne (by decide), sA_ne (by decide)]
  refine ⟨⟨fun p h1 h2 => by rw [sA_ne (by omega), sA_ne (by omega), sA_ne (by omega), sA_ne (by omega)]; exact a1 p h1 h2, fun t ht => by rw [sA_ne (by decide), sA_ne (by decide), sA_ne (by decide), sA_ne (by decide)]; exact a2 t ht, fun k hk => by rw [z k (by omega)]; exact a3 k hk, a4⟩, by rw [z 17 (by decide)]; exact h1, by rw [z 18 (by decide)]; exact h2, by rw [z 19 (by decide)]; exact h3, by rw [z 21 (by decide)]; exact d1, by rw [sA_eq, upd_eq]; rfl, by rw [z 24 (by decide)]; exact d3, fun x hx => by rw [sA_ne (by decide), sA_ne (by decide), sA_ne (by decide), sA_ne (by decide)]; exact d4 x hx, fun i hi => ⟨?_, ?_, ?_⟩⟩
  · have hi : i < fQ F + 1 := hi
    rw [sA_ne (by decide), sA_eq, upd_ne (by omega), sA_eq, upd_ne (by omega), sA_eq]
    show _ = nI (if i = fQ F then k else fK F i)
    by_cases e : i = fQ F
    · rw [if_pos e, e, upd_eq]
    · rw [if_neg e, upd_ne (by omega)]; exact (d5 i (by omega)).1
  · have hi : i < fQ F + 1 := hi
    rw [sA_ne (by decide), sA_eq, upd_ne (by omega), sA_eq]
    show _ = nI (if i = fQ F then s else fT F i)
    by_cases e : i = fQ F
    · rw [if_pos e, e, upd_eq]
    · rw [if_neg e, upd_ne (by omega), sA_eq, upd_ne (by omega)]; exact (d5 i (by omega)).2.1
  · have hi : i < fQ F + 1 := hi
    rw [sA_ne (by decide), sA_eq]
    show _ = nI (if i = fQ F then o else fO F i)
    by_cases e : i = fQ F
    · rw [if_pos e, e, upd_eq]
    · rw [if_neg e, upd_ne (by omega), sA_eq, upd_ne (by omega), sA_eq, upd_ne (by omega)]; exact (d5 i (by omega)).2.2
theorem addS_ok (hF : DrOk F) (h6 : fQ F < 6) {k s o : Nat} (hk : k ≤ 5) (hs : s ≤ 9) (ho : o ≤ 7) : DrOk (addS F k s o) := by
  obtain ⟨f1, f2, f3, f4, f5⟩ := hF
  refine ⟨f1, by show fQ F + 1 ≤ 6; omega, f3, f4, fun i hi => ?_⟩
  have hi : i < fQ F + 1 := hi
  by_cases e : i = fQ F
  · refine ⟨?_, ?_, ?_⟩
    · show (if i = fQ F then k else fK F i) ≤ 5; rw [if_pos e]; exact hk
    · show (if i = fQ F then s else fT F i) ≤ 9; rw [if_pos e]; exact hs
    · show (if i = fQ F then o else fO F i) ≤ 7; rw [if_pos e]; exact ho
  · obtain ⟨g1, g2, g3⟩ := f5 i (by omega)
    refine ⟨?_, ?_, ?_⟩
    · show (if i = fQ F then k else fK F i) ≤ 5; rw [if_neg e]; exact g1
    · show (if i = fQ F then s else fT F i) ≤ 9; rw [if_neg e]; exact g2
    · show (if i = fQ F then o else fO F i) ≤ 7; rw [if_neg e]; exact g3
theorem rd_say (hT : TxB c0 m0 t n) (hc : RdC c0 t n F c) (hm : RdM m0 t n p F m) (hF : DrOk F) (hp : p < n) (hP : 0 < fP F) : Out c0 m0 t n p (fX4_readSaying (nI p) c) (fX8_readsSaying m) := by
  have hn := hT.2.1
  obtain ⟨f1, f2, f3, f4, f5⟩ := id hF
  unfold fX4_readSaying fX4_readSaying_E fX4_readSaying_35 fX8_readsSaying fX8_readsSaying_E fX4_faultAt fX4_faultAt_E
  rw [bo_v (c_sign hT hc (by omega)), if_pos hp, bo_v (m_here hT hm hp)]
  obtain ⟨o, k1, k2, k3⟩ := kind_eq (m0.1 9 (60 * t + p))
  rw [bo_v k1, bo_v k2, hc.2.2.2.2.1, hc.2.2.2.2.2.1, hm.2.2.2.2.2.1, hm.2.2.2.2.2.2.1]
  cases o with
  | none =>
    rw [show gI none = -1 from rfl, if_pos (by decide), if_pos rfl]
    exact Out.fail hc p hm hF (by omega) p
  | some k =>
    have hk5 := k3 k rfl
    rw [show gI (some k) = nI k from rfl, if_neg (nI_pos (by omega)), if_neg (nI_ne9 (by omega))]
    by_cases h6 : fQ F = 6
    · rw [h6, if_pos (by decide), if_pos (by decide)]
      exact Out.fail hc p hm hF (by omega) p
    · rw [if_neg (show ¬ (6 : Int32) ≤ nI (fQ F) from nI_ge (show fQ F < 6 by omega) (by decide)), if_neg (show ¬ nI (fQ F) = (6 : Int32) from by rw [show (6 : Int32) = nI 6 from rfl, nI_eq (by omega) (by decide)]; exact h6)]
      by_cases hu : fU F = 0
      · rw [hu, if_pos (show nI 0 = 0 from rfl), if_pos (show nI 0 = 0 from rfl)]
        have hm1 := hm.move (v := m.1 0 18 + 1) (q := p + 1) (by rw [hm.2.2.1, nI_1])
        simp only [nm]
        rw [nI_1, bo_v (c_fig hT hc (show p + 1 < 1000 by omega) (most := 9) (b := 9) rfl (by decide))]
        rcases m_fig hT hm1 (most := 9) (b := 9) rfl (by decide) (by omega) with ⟨g1, g2⟩ | ⟨s, m2, g1, g2, g3⟩
        · have g2' : fX8_figure 0 9 (sA m 0 18 (m.1 0 18 + 1)) = _ := g2
          rw [g1, show gI none = -1 from rfl, if_neg (by decide), bd_v g2', if_pos rfl]
          unfold fX8_readsSaying_68
          rw [if_pos rfl]
          exact Out.fail hc (p + 1) hm1 hF (by omega) p
        · have g2' : fX8_figure 0 9 (sA m 0 18 (m.1 0 18 + 1)) = _ := g2
          have hs := fgo_le g1
          rw [g1, show gI (some s) = nI s from rfl, if_pos (nI_ge0 (by omega)), bd_v g2', if_neg (nI_ne9 (by omega)), show nI p + 2 = nI (p + 2) from nI_add p 2, bo_v (c_fig hT hc (show p + 2 < 1000 by omega) (most := 7) (b := 7) rfl (by decide))]
          rcases m_fig hT g3 (most := 7) (b := 7) rfl (by decide) (by omega) with ⟨e1, e2⟩ | ⟨o, m3, e1, e2, e3⟩
          · have e2' : fX8_figure 0 7 m2 = _ := e2
            rw [show p + 1 + 1 = p + 2 from rfl] at e1
            rw [e1, show gI none = -1 from rfl, if_neg (by decide), bd_v e2']
            unfold fX8_readsSaying_68
            rw [if_pos rfl]
            exact Out.fail hc (p + 2) g3 hF (by omega) p
          · have e2' : fX8_figure 0 7 m2 = _ := e2
            rw [show p + 1 + 1 = p + 2 from rfl] at e1
            have ho := fgo_le e1
            rw [e1, show gI (some o) = nI o from rfl, if_pos (nI_ge0 (by omega)), bd_v e2']
            unfold fX8_readsSaying_68
            have q1 : (sA c 33 (nI (fQ F)).toNatClampNeg (nI k)).1 31 2 = nI (fQ F) := by rw [sA_ne (by decide)]; exact hc.2.2.2.2.1
            have q2 : (sA (sA c 33 (nI (fQ F)).toNatClampNeg (nI k)) 34 (nI (fQ F)).toNatClampNeg (nI s)).1 31 2 = nI (fQ F) := by rw [sA_ne (by decide)]; exact q1
            have q3 : (sA (sA (sA c 33 (nI (fQ F)).toNatClampNeg (nI k)) 34 (nI (fQ F)).toNatClampNeg (nI s)) 35 (nI (fQ F)).toNatClampNeg (nI o)).1 31 2 = nI (fQ F) := by rw [sA_ne (by decide)]; exact q2
            have r0 : m3.1 0 23 = nI (fQ F) := e3.2.2.2.2.2.1
            rw [if_neg (nI_ne9 (by omega)), q1, q2, q3, gd_t (inb_nI (show fQ F < 6 by omega) (by decide)), gd_t (inb_nI (show fQ F < 6 by omega) (by decide)), gd_t (inb_nI (show fQ F < 6 by omega) (by decide)), nI_clamp (show fQ F < 2 ^ 31 by omega), r0]
            simp only [nm]
            have t3 : (3 : Int32) * nI (fQ F) = nI (3 * fQ F) := pk_mul 3 (fQ F)
            have r1 : (sA m3 12 (nI (3 * fQ F)).toNatClampNeg (nI k)).1 0 23 = nI (fQ F) := by rw [sA_ne (by decide)]; exact r0
            have r2 : (sA (sA m3 12 (nI (3 * fQ F)).toNatClampNeg (nI k)) 12 (nI (3 * fQ F + 1)).toNatClampNeg (nI s)).1 0 23 = nI (fQ F) := by rw [sA_ne (by decide)]; exact r1
            have r3 : (sA (sA (sA m3 12 (nI (3 * fQ F)).toNatClampNeg (nI k)) 12 (nI (3 * fQ F + 1)).toNatClampNeg (nI s)) 12 (nI (3 * fQ F + 2)).toNatClampNeg (nI o)).1 0 23 = nI (fQ F) := by rw [sA_ne (by decide)]; exact r2
            rw [t3, gd_t (inb_nI (show 3 * fQ F < 18 by omega) (by decide)), r1, t3, nI_1 (3 * fQ F), gd_t (inb_nI (show 3 * fQ F + 1 < 18 by omega) (by decide)), r2, t3, show nI (3 * fQ F) + 2 = nI (3 * fQ F + 2) from nI_add _ 2, gd_t (inb_nI (show 3 * fQ F + 2 < 18 by omega) (by decide)), r3, nI_clamp (show 3 * fQ F < 2 ^ 31 by omega), nI_clamp (show 3 * fQ F + 1 < 2 ^ 31 by omega), nI_clamp (show 3 * fQ F + 2 < 2 ^ 31 by omega), nI_1 (fQ F), show nI p + 3 = nI (p + 3) from nI_add p 3]
            exact ⟨true, p + 3, addS F k s o, _, _, rfl, rfl, addS_c hc k s o, addS_m e3 k s o, addS_ok hF (by omega) hk5 (by omega) (by omega), by omega, fun _ => ⟨by omega, by omega, hP⟩⟩
      · rw [if_neg (nI_ne0 (by omega) (by omega)), if_neg (nI_ne0 (by omega) (by omega))]
        exact Out.fail hc p hm hF (by omega) p
end PB

/-! PURE: waits, mark, kinds -/
theorem sim_waits {c m : Mm} (h : Rel c m) (x1 x2 : Int32) : Sim1 (fX7_waits x1 x2 c) (fX8_waits x1 x2 m) := by
  obtain ⟨F, n, hF, hc, hm, ⟨ho, hz, hd, hB⟩, hk⟩ := id h.1
  have hn := ho.1
  have hb := rep_Bd hF ho n (Nat.le_refl _)
  have hp := hF.p
  have hq := hF.q
  unfold fX7_waits fX7_waits_E fX8_waits fX8_waits_E
  rw [bo_v (c_isOne hF hc x1), bo_v (m_isOne hF hm x1), if_10, if_10, bo_v (c_isSaying hF hc x2), bo_v (m_isSaying hF hm x2), if_10, if_10, bo_v (c_isOver hd hb), bo_v (m_isOver hB.2.1 hb), if_01, if_01]
  by_cases h1 : inb x1 (fP F) = true
  · rw [if_pos h1, if_pos h1]
    by_cases h2 : inb x2 (fQ F) = true
    · rw [if_pos h2, if_pos h2]
      obtain ⟨x, hx, -, rfl⟩ := inb_ex h1
      obtain ⟨i, hi, -, rfl⟩ := inb_ex h2
      by_cases hv : dV (rep F (c.1 29) n) = 0
      · rw [if_pos hv, if_pos hv]
        have en : fX8_nearOf 0 (nI i) m = some (nI (near F (rep F (c.1 29) n) i)) := m_near (b := 0) hF hm hB.2.1 hb (by omega) (by decide) hi
        have e2 : m.1 1 2 = nI (dS (rep F (c.1 29) n)) := by have := hB.2.1.2.1; exact this
        have l1 := near_le hF hb hi
        have l2 := hb.1
        have l3 := hF.2.2.2.1 x hx
        rw [gd_t (inb_nI (show x < 4 by omega) (by decide)), bo_v (c_near hF hc hd hb (by omega) hi), bo_v en, gd_t (inb_nI (show x < 4 by omega) (by decide)), nI_clamp (show x < 2 ^ 31 by omega), hc.2.2.2.1 x hx, hm.2.2.2.1 x hx, hd.1, e2]
        simp only [nm]
        generalize dS (rep F (c.1 29) n) = S at l2 ⊢
        generalize near F (rep F (c.1 29) n) i = N at l1 ⊢
        generalize fB F x = B at l3 ⊢
        have h0 : (0 : Int32).toInt = 0 := rfl
        by_cases q : N ≤ B
        · rw [if_pos (nI_le q (by omega)), pk_sub q, if_pos (nI_ge0 (by omega)), nI_add]
          by_cases q2 : B ≤ S + N
          · rw [pk_sub q2, if_pos (nI_ge0 (by omega)), pk_sub (by omega), show S - (B - N) = S + N - B by omega]
            by_cases q3 : S + N - B = 0
            · rw [q3, if_neg (by decide)]
              exact Sim1.ret _
            · rw [if_pos (show (0 : Int32) < nI (S + N - B) from nI_lt (a := 0) (show 0 < S + N - B by omega) (by omega))]
              exact Sim1.ret _
          · have s1 := pk_sneg (a := S + N) (b := B) (by omega) (by omega)
            have s2 := pk_sneg (a := S) (b := B - N) (by omega) (by omega)
            rw [if_neg (Int32.not_le.mpr s1), if_neg (by
              intro g
              rw [Int32.lt_iff_toInt_lt] at g s2
              omega)]
            exact Sim1.ret _
        · have s1 := pk_sneg (a := B) (b := N) (by omega) (by omega)
          rw [if_neg (nI_ge (by omega) (by omega)), if_neg (Int32.not_le.mpr s1)]
          exact Sim1.ret _
      · rw [if_neg hv, if_neg hv]; exact Sim1.ret _
    · rw [if_neg h2, if_neg h2]; exact Sim1.ret _
  · rw [if_neg h1, if_neg h1]; exact Sim1.ret _
/-! which kind it is one of -/
def isk (k w : Nat) : Bool := k == w || (w == 1 && (k == 3 || k == 5)) || (w == 2 && k == 4)
theorem isk_c : ∀ k, k < 6 → ∀ w, w < 6 → 0 < w → (if nI k = nI w then some (1 : Int32) else gd (inb (nI k) 6 = true) (if stP (nI k).toNatClampNeg = nI w then some 1 else some 0)) = some (if isk k w = true then 1 else 0) := by decide +kernel
theorem isk_m : ∀ k, k < 6 → ∀ w, w < 6 → 0 < w → (if nI k = nI w then some (1 : Int32) else (if nI w = 1 then (if nI k = 3 then some 1 else (if nI k = 5 then some 1 else (if nI w = 2 then (if nI k = 4 then some 1 else some 0) else some 0))) else (if nI w = 2 then (if nI k = 4 then some 1 else some 0) else some 0))) = some (if isk k w = true then 1 else 0) := by decide +kernel
section PK
variable {F : Fam} {d : Dyn} {c m : Mm} {n : Nat}
theorem c_isOf (hF : FamOk F) (hc : FamC F c) {i w : Nat} (hi : i < fQ F) (hw : w < 6) (h0 : 0 < w) : fX2_isOfKind_23 (nI i) (nI w) c = some (if isk (fK F i) w = true then 1 else 0) := by
  unfold fX2_isOfKind_23 fX2_isOfKind_23_E fX2_isOfKind_23_24
  have hq := hF.q
  have hk := (hF.2.2.2.2.1 i hi).1
  rw [gd_t (inb_nI (by omega) (by decide)), nI_clamp (show i < 2 ^ 31 by omega), (hc.2.2.2.2 i hi).1]
  exact isk_c _ (by omega) w hw h0
theorem m_isOf (hF : FamOk F) (hm : FamM F m) {i w : Nat} (hi : i < fQ F) (hw : w < 6) (h0 : 0 < w) : fX8_isOf (nI i) (nI w) m = some (if isk (fK F i) w = true then 1 else 0) := by
  unfold fX8_isOf fX8_isOf_E fX8_isOf_37 fX8_isOf_27 fX8_isOf_37
  have hq := hF.q
  have hk := (hF.2.2.2.2.1 i hi).1
  rw [gd_t (inb_nI (by omega) (by decide)), nI_clamp (show i < 2 ^ 31 by omega), (hm.2.2.2.2 i hi).1]
  simp only [nm]
  exact isk_m _ (by omega) w hw h0
end PK
theorem wOver_lt {F : Fam} (hF : FamOk F) (d : Dyn) (i : Nat) : wOver F d i < 64 := by
  unfold wOver
  have hp := hF.p
  by_cases h : dV d = 0
  · rw [if_pos h]
    have := wob_lt (fun x => decide (fB F x < dS d + near F d i)) (fP F)
    have h2 : 2 ^ fP F ≤ 2 ^ 4 := Nat.pow_le_pow_right (by decide) hp
    omega
  · rw [if_neg h]; decide
theorem mark3 {t s : Nat} (ht : t ≤ 9) (hs : s ≤ 60) : (if 0 < ((3 : Int32) - nI t) - nI s then ((3 : Int32) - nI t) - nI s else 0) = (if 0 ≤ ((3 : Int32) - nI t) - nI s then ((3 : Int32) - nI t) - nI s else 0) := by
  by_cases h : 0 < ((3 : Int32) - nI t) - nI s
  · rw [if_pos h, if_pos (Int32.le_of_lt h)]
  · rw [if_neg h]
    by_cases h2 : 0 ≤ ((3 : Int32) - nI t) - nI s
    · rw [if_pos h2]
      exact Int32.le_antisymm h2 (Int32.not_lt.mp h)
    · rw [if_neg h2]
theorem sim_mark {c m : Mm} (h : Rel c m) (x1 x2 : Int32) : Sim (fX7_mark x1 x2 c) (fX8_mark x1 x2 m) := by
  obtain ⟨F, n, hF, hc, hm, ⟨ho, hz, hd, hB⟩, hk⟩ := id h.1
  have hn := ho.1
  have hb := rep_Bd hF ho n (Nat.le_refl _)
  have hp := hF.p
  have hq := hF.q
  have e1 : (1 : Int32).toInt = 1 := rfl
  have e5 : (5 : Int32).toInt = 5 := rfl
  unfold fX7_mark fX7_mark_E fX8_mark fX8_mark_E
  rw [bo_v (c_isSaying hF hc x1), bo_v (m_isSaying hF hm x1), if_10, if_10, bo_v (in_rng (x := x2) (L := 1) (M := 5) (a := 1) (b := 5) rfl rfl), if_10, bd_id, bd_id]
  by_cases h1 : inb x1 (fQ F) = true
  · rw [if_pos h1, if_pos h1]
    obtain ⟨i, hi, -, rfl⟩ := inb_ex h1
    by_cases h2 : (1 : Int32) ≤ x2 ∧ x2 ≤ 5
    · rw [if_pos h2, if_neg (Int32.not_lt.mpr h2.1), if_pos h2.2]
      rw [Int32.le_iff_toInt_le, Int32.le_iff_toInt_le, e1, e5] at h2
      obtain ⟨w, hw1, rfl⟩ : ∃ k : Nat, (x2.toInt = k) ∧ x2 = nI k := ⟨x2.toInt.toNat, by omega, nI_of_toInt (by omega) (by omega)⟩
      have hw : w < 6 ∧ 0 < w := by omega
      rw [bo_v (c_isOf hF hc hi hw.1 hw.2), bo_v (m_isOf hF hm hi hw.1 hw.2), if_10, if_10]
      by_cases h3 : isk (fK F i) w = true
      · rw [if_pos h3, if_pos h3]
        have g5 : m.1 1 (5 + i) = nI (dN (rep F (c.1 29) n) i) := by have := hB.2.1.2.2.2.2 i (by omega); rw [Nat.zero_add] at this; exact this
        have e3 : m.1 1 3 = nI (dT (rep F (c.1 29) n)) := by have := hB.2.1.2.2.1; exact this
        have hT := (hF.2.2.2.2.1 i hi).2.1
        have hN := hb.2.2.2.2 i
        have ht := hb.2.1
        have eop : fX8_openOf (m.1 1 3) = some (nI (opn (dT (rep F (c.1 29) n)))) := by rw [e3]; exact op_eq _ (by omega)
        rw [bo_v eop, bo_v (c_open hd hb), bo_v (c_who hF hc hd hb (by omega) hi), bo_v (m_who hF hm hB.2.1 hb (by omega) hi), bo_v (bc_eq _ (wOver_lt hF _ i)), bo_v (bits_eq _ (wOver_lt hF _ i)), gd_t (inb_nI (show i < 6 by omega) (by decide)), gd_t (inb_nI (show i < 6 by omega) (by decide)), gd_t (inb_nI (show i < 6 by omega) (by decide)), gd_t (inb_nI (show i < 6 by omega) (by decide)), gd_t (inb_nI (show i < 6 by omega) (by decide)), (show (5 : Int32) + nI i = nI (5 + i) from by rw [nI_lit5, nI_add]), gd_t (inb_nI (show 5 + i < 1655 by omega) (by decide)), gd_t (inb_nI (show 5 + i < 1655 by omega) (by decide)), nI_clamp (show i < 2 ^ 31 by omega), nI_clamp (show 5 + i < 2 ^ 31 by omega), (hc.2.2.2.2 i hi).2.1, (hm.2.2.2.2 i hi).2.1, hd.2.2.2 i (by omega), g5]
        simp only [nm]
        rw [mark3 (by omega) (by omega)]
        have key : ∀ (A1 A2 A3 A4 A5 A6 : Int32) (P : Prop) (dP : Decidable P), Sim (if nI w = 1 then some (A1, c) else if nI w = 2 then some (A2, c) else if nI w = 3 then some (if P then A3 else A4, c) else if nI w = 4 then some (A5, c) else some (A6, c)) (if nI w = 1 then some (A1, m) else if nI w = 2 then some (A2, m) else if nI w = 3 then (if P then some (A3, m) else some (A4, m)) else if nI w = 4 then some (A5, m) else some (A6, m)) := by
          intro A1 A2 A3 A4 A5 A6 P dP
          by_cases q1 : nI w = 1
          · rw [if_pos q1, if_pos q1]; exact Sim.ret h
          · rw [if_neg q1, if_neg q1]
            by_cases q2 : nI w = 2
            · rw [if_pos q2, if_pos q2]; exact Sim.ret h
            · rw [if_neg q2, if_neg q2]
              by_cases q3 : nI w = 3
              · rw [if_pos q3, if_pos q3]
                by_cases qP : P
                · rw [if_pos qP, if_pos qP]; exact Sim.ret h
                · rw [if_neg qP, if_neg qP]; exact Sim.ret h
              · rw [if_neg q3, if_neg q3]
                by_cases q4 : nI w = 4
                · rw [if_pos q4, if_pos q4]; exact Sim.ret h
                · rw [if_neg q4, if_neg q4]; exact Sim.ret h
        exact key _ _ _ _ _ _ _ _
      · rw [if_neg h3, if_neg h3]
        exact sim_find h (k := 3) rfl (by decide) (by decide)
    · rw [if_neg h2]
      by_cases q : x2 < 1
      · rw [if_pos q]; exact Sim.ret h
      · rw [if_neg q, if_neg (fun g => h2 ⟨Int32.not_lt.mp q, g⟩)]; exact Sim.ret h
  · rw [if_neg h1, if_neg h1]; exact Sim.ret h
/-! kinds -/
theorem c_kinds {F : Fam} {c : Mm} (hF : FamOk F) (hc : FamC F c) {i a b o : Nat} (hi : i < fQ F) (ha : a ≤ 99) (hb : b ≤ 9) (ho : o ≤ 3) : fX7_kinds_52 (nI i) (nI a) (nI b) (nI o) c FU 0 0 = some (nI (wob (fun k => decide (nr k (fT F i) b o = a)) 6)) := by
  have hq := hF.q
  have hT := (hF.2.2.2.2.1 i hi).2.1
  have lp : ∀ k x N, x + k = 6 → k < N → fX7_kinds_52 (nI i) (nI a) (nI b) (nI o) c N (nI (wob (fun k => decide (nr k (fT F i) b o = a)) x)) (nI x) = some (nI (wob (fun k => decide (nr k (fT F i) b o = a)) 6)) := by
    intro k
    induction k with
    | zero =>
      intro x N hx hN
      obtain ⟨N, rfl⟩ : ∃ t, N = t + 1 := ⟨N - 1, by omega⟩
      have : x = 6 := by omega
      subst this
      rw [fX7_kinds_52, if_pos (by decide)]
    | succ k ih =>
      intro x N hx hN
      obtain ⟨N, rfl⟩ : ∃ t, N = t + 1 := ⟨N - 1, by omega⟩
      have hw := wob_lt (fun k => decide (nr k (fT F i) b o = a)) x
      have := ih (x + 1) N (by omega) (by omega)
      have hl := nr_le (k := x) (t := fT F i) (s := b) (o := o)
      rw [fX7_kinds_52, if_neg (show ¬ (6 : Int32) ≤ nI x from nI_ge (show x < 6 by omega) (by decide)), gd_t (inb_nI (by omega) (by decide)), nI_clamp (show i < 2 ^ 31 by omega), (hc.2.2.2.2 i hi).2.1, bo_v (cnr (by omega) (by omega) (by omega) (by omega))]
      unfold fX7_kinds_89
      simp only [nm]
      by_cases h : nr x (fT F i) b o = a
      · rw [if_pos (by rw [h])]
        rw [wob, if_pos (by simp; omega)] at this
        rw [nI_1, or_bit (by omega) hw]
        exact this
      · rw [if_neg (by rw [nI_eq (by omega) (by omega)]; exact h)]
        rw [wob, if_neg (by simp; omega), Nat.add_zero] at this
        rw [nI_1]
        exact this
  exact lp 6 0 FU (by omega) (FU_lt (by decide))
theorem m_kinds {F : Fam} {m : Mm} (hF : FamOk F) (hm : FamM F m) {i a b o : Nat} (hi : i < fQ F) (ha : a ≤ 99) (hb : b ≤ 9) (ho : o ≤ 3) : fX8_kinds_53 (nI i) (nI a) (nI b) (nI o) m FU 0 0 = some (nI (wob (fun k => decide (nr k (fT F i) b o = a)) 6)) := by
  have hq := hF.q
  have hT := (hF.2.2.2.2.1 i hi).2.1
  have lp : ∀ k x N, x + k = 6 → k < N → fX8_kinds_53 (nI i) (nI a) (nI b) (nI o) m N (nI (wob (fun k => decide (nr k (fT F i) b o = a)) x)) (nI x) = some (nI (wob (fun k => decide (nr k (fT F i) b o = a)) 6)) := by
    intro k
    induction k with
    | zero =>
      intro x N hx hN
      obtain ⟨N, rfl⟩ : ∃ t, N = t + 1 := ⟨N - 1, by omega⟩
      have : x = 6 := by omega
      subst this
      rw [fX8_kinds_53, if_pos (by decide)]
    | succ k ih =>
      intro x N hx hN
      obtain ⟨N, rfl⟩ : ∃ t, N = t + 1 := ⟨N - 1, by omega⟩
      have hw := wob_lt (fun k => decide (nr k (fT F i) b o = a)) x
      have := ih (x + 1) N (by omega) (by omega)
      have hl := nr_le (k := x) (t := fT F i) (s := b) (o := o)
      rw [fX8_kinds_53, if_neg (show ¬ (6 : Int32) ≤ nI x from nI_ge (show x < 6 by omega) (by decide)), gd_t (inb_nI (by omega) (by decide)), nI_clamp (show i < 2 ^ 31 by omega), (hm.2.2.2.2 i hi).2.1, bo_v (mnr (by omega) (by omega) (by omega) (by omega))]
      unfold fX8_kinds_88
      simp only [nm]
      by_cases h : nr x (fT F i) b o = a
      · rw [if_pos (by rw [h])]
        rw [wob, if_pos (by simp; omega)] at this
        rw [nI_1, or_bit (by omega) hw]
        exact this
      · rw [if_neg (by rw [nI_eq (by omega) (by omega)]; exact h)]
        rw [wob, if_neg (by simp; omega), Nat.add_zero] at this
        rw [nI_1, or_0]
        exact this
  exact lp 6 0 FU (by omega) (FU_lt (by decide))
/-- x < 0 or b < x, else .. -/
theorem rng_c {α : Type} (x b : Int32) (n : Nat) (hb : b.toInt = (n : Int) - 1) (A B : α) : (if x < 0 then A else (if x ≤ b then B else A)) = if inb x n = true then B else A := by
  have h0 : (0 : Int32).toInt = 0 := rfl
  by_cases q : inb x n = true
  · rw [if_pos q]
    rw [inb_iff] at q
    rw [if_neg (by rw [Int32.lt_iff_toInt_lt, h0]; omega), if_pos (by rw [Int32.le_iff_toInt_le, hb]; omega)]
  · rw [if_neg q]
    have q := inb_no q
    by_cases g : x < 0
    · rw [if_pos g]
    · rw [if_neg g, if_neg]
      rw [Int32.lt_iff_toInt_lt, h0] at g
      rw [Int32.le_iff_toInt_le, hb]
      omega
theorem rng_d {α : Type} (x b : Int32) (n : Nat) (hb : b.toInt = (n : Int) - 1) (A B : α) : (if x < 0 then A else (if b < x then A else B)) = if inb x n = true then B else A := by
  rw [← rng_c x b n hb A B]
  by_cases g : x < 0
  · rw [if_pos g, if_pos g]
  · rw [if_neg g, if_neg g]
    by_cases q : x ≤ b
    · rw [if_pos q, if_neg (Int32.not_lt.mpr q)]
    · rw [if_neg q, if_pos (Int32.not_le.mp q)]
theorem sim_kinds {c m : Mm} (h : Rel c m) (x1 x2 x3 x4 : Int32) : Sim1 (fX7_kinds x1 x2 x3 x4 c) (fX8_kinds x1 x2 x3 x4 m) := by
  obtain ⟨F, n, hF, hc, hm, -⟩ := h.1
  unfold fX7_kinds fX7_kinds_E fX8_kinds fX8_kinds_E
  rw [bo_v (c_isSaying hF hc x1), bo_v (m_isSaying hF hm x1), if_10, if_10, bo_v (in_n x2 99 99 100 rfl rfl), if_10, bo_v (in_n x3 9 9 10 rfl rfl), if_10, bo_v (in_n x4 3 3 4 rfl rfl), if_10, rng_c x2 99 100 rfl, rng_d x3 9 10 rfl, rng_c x4 3 4 rfl]
  by_cases h1 : inb x1 (fQ F) = true
  · rw [if_pos h1, if_pos h1]
    by_cases h2 : inb x2 100 = true
    · rw [if_pos h2, if_pos h2]
      by_cases h3 : inb x3 10 = true
      · rw [if_pos h3, if_pos h3]
        by_cases h4 : inb x4 4 = true
        · rw [if_pos h4, if_pos h4]
          obtain ⟨i, hi, -, rfl⟩ := inb_ex h1
          obtain ⟨a, ha, -, rfl⟩ := inb_ex h2
          obtain ⟨b, hb, -, rfl⟩ := inb_ex h3
          obtain ⟨o, ho, -, rfl⟩ := inb_ex h4
          rw [c_kinds hF hc hi (by omega) (by omega) (by omega), m_kinds hF hm hi (by omega) (by omega) (by omega)]
          exact Sim1.ret _
        · rw [if_neg h4, if_neg h4]; exact Sim1.ret _
      · rw [if_neg h3, if_neg h3]; exact Sim1.ret _
    · rw [if_neg h2, if_neg h2]; exact Sim1.ret _
  · rw [if_neg h1, if_neg h1]; exact Sim1.ret _

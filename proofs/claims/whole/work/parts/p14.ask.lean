/-! PURE: questions -/
def Sim1 (x y : Option Int32) : Prop := ∃ r, x = some r ∧ y = some r
def SimL (x y : Option Int64) : Prop := ∃ r, x = some r ∧ y = some r
theorem Sim1.ret (r : Int32) : Sim1 (some r) (some r) := ⟨r, rfl, rfl⟩
theorem sim_stuck {c m : Mm} (h : Rel c m) : Sim1 (fX7_stuck c) (fX8_stuck m) := by
  obtain ⟨F, n, hF, hc, hm, -⟩ := h.1
  unfold fX7_stuck fX7_stuck_E fX8_stuck fX8_stuck_E
  rw [hc.2.2.1, hm.2.2.1]
  exact Sim1.ret _
theorem sim_asked {c m : Mm} (h : Rel c m) : Sim1 (fX7_asked c) (fX8_asked m) := ⟨_, rfl, by rw [h.2.2.2.1]; rfl⟩
theorem sim_upper {c m : Mm} (h : Rel c m) : SimL (fX7_upper c) (fX8_upper m) := ⟨_, rfl, by rw [h.2.2.2.2.1]; rfl⟩
theorem sim_lower {c m : Mm} (h : Rel c m) : SimL (fX7_lower c) (fX8_lower m) := ⟨_, rfl, by rw [h.2.2.2.2.2.1]; rfl⟩
theorem sim_finding {c m : Mm} (h : Rel c m) : Sim1 (fX7_finding c) (fX8_finding m) := ⟨_, rfl, by rw [h.2.2.2.2.2.2.1]; rfl⟩
theorem sim_findings {c m : Mm} (h : Rel c m) (x1 : Int32) : Sim1 (fX7_findings x1 c) (fX8_findings x1 m) := by
  unfold fX7_findings fX7_findings_E fX7_findings_10 fX8_findings fX8_findings_E
  have e1 : (1 : Int32).toInt = 1 := rfl
  have e5 : (5 : Int32).toInt = 5 := rfl
  rw [bo_v (in_rng (x := x1) (L := 1) (M := 5) (a := 1) (b := 5) rfl rfl), if_10]
  by_cases h1 : (1 : Int32) ≤ x1 ∧ x1 ≤ 5
  · rw [if_pos h1, if_neg (Int32.not_lt.mpr h1.1), if_pos h1.2]
    rw [Int32.le_iff_toInt_le, Int32.le_iff_toInt_le, e1, e5] at h1
    obtain ⟨k, hk1, rfl⟩ : ∃ k : Nat, (x1.toInt = k) ∧ x1 = nI k := ⟨x1.toInt.toNat, by omega, nI_of_toInt (by omega) (by omega)⟩
    rw [gd_t (inb_nI (by omega) (by decide)), gd_t (inb_nI (by omega) (by decide)), nI_clamp (by omega), h.2.2.2.2.2.2.2 k (by omega) (by omega)]
    exact Sim1.ret _
  · rw [if_neg h1]
    by_cases q : x1 < 1
    · rw [if_pos q]; exact Sim1.ret _
    · rw [if_neg q, if_neg (fun g => h1 ⟨Int32.not_lt.mp q, g⟩)]; exact Sim1.ret _
theorem sim_bears {c m : Mm} (h : Rel c m) (x1 : Int32) : Sim1 (fX7_bears x1 c) (fX8_bears x1 m) := by
  obtain ⟨F, n, hF, hc, hm, -⟩ := h.1
  have hp := hF.p
  unfold fX7_bears fX7_bears_E fX8_bears fX8_bears_E
  rw [bo_v (c_isOne hF hc x1), bo_v (m_isOne hF hm x1), if_10, if_10]
  by_cases h1 : inb x1 (fP F) = true
  · rw [if_pos h1, if_pos h1]
    obtain ⟨x, hx, -, rfl⟩ := inb_ex h1
    rw [gd_t (inb_nI (by omega) (by decide)), gd_t (inb_nI (by omega) (by decide)), nI_clamp (by omega), hc.2.2.2.1 x hx, hm.2.2.2.1 x hx]
    exact Sim1.ret _
  · rw [if_neg h1, if_neg h1]; exact Sim1.ret _
/-! what a saying is -/
def asp (F : Fam) (d : Dyn) (i k : Nat) : Nat := if k = 0 then fK F i else if k = 1 then fT F i else if k = 2 then near F d i else if k = 3 then fO F i else dN d i
section PA
variable {F : Fam} {d : Dyn} {c m : Mm} {n : Nat}
theorem c_aspect (hF : FamOk F) (hc : FamC F c) (hd : DynC d c) (hb : Bd n d) (hn : n ≤ 60) {i k : Nat} (hi : i < fQ F) (hk : k < 5) : fX2_aspect_23 (nI i) (nI k) c = some (nI (asp F d i k)) := by
  unfold fX2_aspect_23 fX2_aspect_23_E asp
  have hq := hF.q
  rw [gd_t (inb_nI (by omega) (by decide)), gd_t (inb_nI (by omega) (by decide)), gd_t (inb_nI (by omega) (by decide)), gd_t (inb_nI (by omega) (by decide)), nI_clamp (by omega), (hc.2.2.2.2 i hi).1, (hc.2.2.2.2 i hi).2.1, (hc.2.2.2.2 i hi).2.2, hd.2.2.2 i (by omega), bo_v (c_near hF hc hd hb hn hi)]
  rcases (show k = 0 ∨ k = 1 ∨ k = 2 ∨ k = 3 ∨ k = 4 by omega) with rfl | rfl | rfl | rfl | rfl <;> rfl
theorem m_toldOf (hF : FamOk F) (hm : FamM F m) (hd : DynM 0 d (m.1 1)) (hb : Bd n d) (hn : n ≤ 60) {i k : Nat} (hi : i < fQ F) (hk : k < 5) : fX8_toldOf (nI i) (nI k) m = some (nI (asp F d i k)) := by
  unfold fX8_toldOf fX8_toldOf_E asp
  have hq := hF.q
  have e5 : m.1 1 (5 + i) = nI (dN d i) := by have := hd.2.2.2.2 i (by omega); rw [Nat.zero_add] at this; exact this
  have en : fX8_nearOf 0 (nI i) m = some (nI (near F d i)) := m_near (b := 0) hF hm hd hb hn (by decide) hi
  rw [gd_t (inb_nI (by omega) (by decide)), gd_t (inb_nI (by omega) (by decide)), gd_t (inb_nI (by omega) (by decide)), bo_v en, (show (5 : Int32) = nI 5 from rfl), nI_add, gd_t (inb_nI (by omega) (by decide)), nI_clamp (show i < 2 ^ 31 by omega), nI_clamp (show 5 + i < 2 ^ 31 by omega), (hm.2.2.2.2 i hi).1, (hm.2.2.2.2 i hi).2.1, (hm.2.2.2.2 i hi).2.2, e5]
  rcases (show k = 0 ∨ k = 1 ∨ k = 2 ∨ k = 3 ∨ k = 4 by omega) with rfl | rfl | rfl | rfl | rfl <;> rfl
end PA
theorem sim_saying {c m : Mm} (h : Rel c m) (x1 x2 : Int32) : Sim (fX7_saying x1 x2 c) (fX8_saying x1 x2 m) := by
  obtain ⟨F, n, hF, hc, hm, ⟨ho, hz, hd, hB⟩, hk⟩ := id h.1
  have hn := ho.1
  have hb := rep_Bd hF ho n (Nat.le_refl _)
  have h0 : (0 : Int32).toInt = 0 := rfl
  have e4 : (4 : Int32).toInt = 4 := rfl
  unfold fX7_saying fX7_saying_E fX8_saying fX8_saying_E
  rw [bo_v (c_isSaying hF hc x1), bo_v (m_isSaying hF hm x1), if_10, if_10, bo_v (in_n x2 4 4 5 rfl rfl), if_10]
  by_cases h1 : inb x1 (fQ F) = true
  · rw [if_pos h1, if_pos h1]
    obtain ⟨i, hi, -, rfl⟩ := inb_ex h1
    by_cases h2 : inb x2 5 = true
    · rw [if_pos h2]
      obtain ⟨k, hk, -, rfl⟩ := inb_ex h2
      rw [if_neg (nI_pos (by omega)), if_pos (show nI k ≤ (4 : Int32) from nI_le (show k ≤ 4 by omega) (by decide)), bo_v (c_aspect hF hc hd hb (by omega) hi hk), bo_v (m_toldOf hF hm hB.2.1 hb (by omega) hi hk), tell_eq]
      simp only [nm]
      exact Sim.ret (h.tell _)
    · rw [if_neg h2]
      have h2 := inb_no h2
      by_cases q : x2 < 0
      · rw [if_pos q]; exact Sim.ret h
      · rw [if_neg q, if_neg]
        · exact Sim.ret h
        · rw [Int32.lt_iff_toInt_lt, h0] at q
          rw [Int32.le_iff_toInt_le, e4]
          omega
  · rw [if_neg h1, if_neg h1]; exact Sim.ret h
/-! sets of bits, one by one -/
def wob (f : Nat → Bool) : Nat → Nat
  | 0 => 0
  | x + 1 => wob f x + if f x then 2 ^ x else 0
theorem wob_lt (f : Nat → Bool) : ∀ x, wob f x < 2 ^ x
  | 0 => Nat.zero_lt_one
  | x + 1 => by
    have := wob_lt f x
    rw [wob, Nat.pow_succ]
    split <;> omega
theorem sh1 : ∀ x, x < 31 → (1 : Int32) <<< (nI x &&& 31) = nI (2 ^ x) := by decide +kernel
theorem or_bit {a x : Nat} (hx : x < 31) (ha : a < 2 ^ x) : nI a ||| ((1 : Int32) <<< (nI x &&& 31)) = nI (a + 2 ^ x) := by
  rw [sh1 x hx, Int32.or_comm]
  have := fa_or_sum (k := x) 1 ha
  rw [Nat.mul_one] at this
  rw [this, Nat.add_comm]
theorem or_0 (a : Nat) : nI a ||| (0 : Int32) = nI a := by
  rw [Int32.or_zero]
section PW
variable {F : Fam} {d : Dyn} {c m : Mm} {n : Nat}
def wOver (F : Fam) (d : Dyn) (i : Nat) : Nat := if dV d = 0 then wob (fun x => decide (fB F x < dS d + near F d i)) (fP F) else 0
def wCan (F : Fam) (d : Dyn) (x : Nat) : Nat := if dV d = 0 then wob (fun i => decide (dS d + near F d i ≤ fB F x)) (fQ F) else 0
theorem c_who (hF : FamOk F) (hc : FamC F c) (hd : DynC d c) (hb : Bd n d) (hn : n ≤ 60) {i : Nat} (hi : i < fQ F) : fX2_whoWouldBeOver_23 (nI i) c = some (nI (wOver F d i)) := by
  unfold fX2_whoWouldBeOver_23 fX2_whoWouldBeOver_23_E wOver
  have hp := hF.p
  have lp : ∀ k x N, x + k = fP F → k < N → dV d = 0 → fX2_whoWouldBeOver_23_4 (nI i) c N (nI (wob (fun x => decide (fB F x < dS d + near F d i)) x)) (nI x) = some (nI (wob (fun x => decide (fB F x < dS d + near F d i)) (fP F))) := by
    intro k
    induction k with
    | zero =>
      intro x N hx hN hv
      obtain ⟨N, rfl⟩ : ∃ t, N = t + 1 := ⟨N - 1, by omega⟩
      have : x = fP F := by omega
      subst this
      rw [fX2_whoWouldBeOver_23_4, hc.1, if_pos (nI_le (Nat.le_refl _) (by omega))]
    | succ k ih =>
      intro x N hx hN hv
      obtain ⟨N, rfl⟩ : ∃ t, N = t + 1 := ⟨N - 1, by omega⟩
      rw [fX2_whoWouldBeOver_23_4, hc.1, if_neg (nI_ge (by omega) (by omega)), bo_v (c_isOver hd hb), if_01, if_pos hv, bo_v (c_bears hF hc hd hb hn (by omega) hi), if_10]
      have hw := wob_lt (fun x => decide (fB F x < dS d + near F d i)) x
      by_cases h : dS d + near F d i ≤ fB F x
      · rw [if_pos h]
        unfold fX2_whoWouldBeOver_23_34
        have := ih (x + 1) N (by omega) (by omega) hv
        rw [wob, if_neg (by simp; omega), Nat.add_zero] at this
        rw [nI_1]
        exact this
      · rw [if_neg h]
        simp only [nm]
        unfold fX2_whoWouldBeOver_23_34
        have := ih (x + 1) N (by omega) (by omega) hv
        rw [wob, if_pos (by simp; omega)] at this
        rw [nI_1, or_bit (by omega) hw]
        exact this
  by_cases hv : dV d = 0
  · rw [if_pos hv]
    exact lp (fP F) 0 FU (by omega) (FU_lt (by omega)) hv
  · rw [if_neg hv]
    have hF' : FU = 999999999999 + 1 := rfl
    rw [hF', fX2_whoWouldBeOver_23_4, hc.1, bo_v (c_isOver hd hb), if_01, if_neg hv]
    by_cases q : nI (fP F) ≤ 0
    · rw [if_pos q]; rfl
    · rw [if_neg q]; rfl
theorem m_who (hF : FamOk F) (hm : FamM F m) (hd : DynM 0 d (m.1 1)) (hb : Bd n d) (hn : n ≤ 60) {i : Nat} (hi : i < fQ F) : fX8_overOf (nI i) m = some (nI (wOver F d i)) := by
  unfold fX8_overOf fX8_overOf_E wOver
  have hp := hF.p
  have lp : ∀ k x N, x + k = fP F → k < N → dV d = 0 → fX8_overOf_4 (nI i) m N (nI (wob (fun x => decide (fB F x < dS d + near F d i)) x)) (nI x) = some (nI (wob (fun x => decide (fB F x < dS d + near F d i)) (fP F))) := by
    intro k
    induction k with
    | zero =>
      intro x N hx hN hv
      obtain ⟨N, rfl⟩ : ∃ t, N = t + 1 := ⟨N - 1, by omega⟩
      have : x = fP F := by omega
      subst this
      rw [fX8_overOf_4, hm.1, if_pos (nI_le (Nat.le_refl _) (by omega))]
    | succ k ih =>
      intro x N hx hN hv
      obtain ⟨N, rfl⟩ : ∃ t, N = t + 1 := ⟨N - 1, by omega⟩
      rw [fX8_overOf_4, hm.1, if_neg (nI_ge (by omega) (by omega)), bo_v (m_isOver hd hb), if_01, if_pos hv, bo_v (m_bears hF hm hd hb hn (by omega) hi), if_10]
      have hw := wob_lt (fun x => decide (fB F x < dS d + near F d i)) x
      unfold fX8_overOf_29 fX8_overOf_36
      simp only [nm]
      have := ih (x + 1) N (by omega) (by omega) hv
      by_cases h : dS d + near F d i ≤ fB F x
      · rw [if_pos h]
        rw [wob, if_neg (by simp; omega), Nat.add_zero] at this
        rw [nI_1, or_0]
        exact this
      · rw [if_neg h]
        rw [wob, if_pos (by simp; omega)] at this
        rw [nI_1, or_bit (by omega) hw]
        exact this
  have lq : ∀ k x N, x + k = fP F → k < N → ¬ dV d = 0 → fX8_overOf_4 (nI i) m N (nI 0) (nI x) = some (nI 0) := by
    intro k
    induction k with
    | zero =>
      intro x N hx hN hv
      obtain ⟨N, rfl⟩ : ∃ t, N = t + 1 := ⟨N - 1, by omega⟩
      have : x = fP F := by omega
      subst this
      rw [fX8_overOf_4, hm.1, if_pos (nI_le (Nat.le_refl _) (by omega))]
    | succ k ih =>
      intro x N hx hN hv
      obtain ⟨N, rfl⟩ : ∃ t, N = t + 1 := ⟨N - 1, by omega⟩
      rw [fX8_overOf_4, hm.1, if_neg (nI_ge (by omega) (by omega)), bo_v (m_isOver hd hb), if_01, if_neg hv]
      unfold fX8_overOf_29 fX8_overOf_36
      simp only [nm]
      rw [nI_1, or_0]
      exact ih (x + 1) N (by omega) (by omega) hv
  by_cases hv : dV d = 0
  · rw [if_pos hv]
    exact lp (fP F) 0 FU (by omega) (FU_lt (by omega)) hv
  · rw [if_neg hv]
    exact lq (fP F) 0 FU (by omega) (FU_lt (by omega)) hv
theorem c_can (hF : FamOk F) (hc : FamC F c) (hd : DynC d c) (hb : Bd n d) (hn : n ≤ 60) {x : Nat} (hx : x < fP F) : fX2_whatCanBeSaid_23 (nI x) c = some (nI (wCan F d x)) := by
  unfold fX2_whatCanBeSaid_23 fX2_whatCanBeSaid_23_E wCan
  have hq := hF.q
  have lp : ∀ k i N, i + k = fQ F → k < N → dV d = 0 → fX2_whatCanBeSaid_23_4 (nI x) c N (nI (wob (fun i => decide (dS d + near F d i ≤ fB F x)) i)) (nI i) = some (nI (wob (fun i => decide (dS d + near F d i ≤ fB F x)) (fQ F))) := by
    intro k
    induction k with
    | zero =>
      intro i N hx hN hv
      obtain ⟨N, rfl⟩ : ∃ t, N = t + 1 := ⟨N - 1, by omega⟩
      have : i = fQ F := by omega
      subst this
      rw [fX2_whatCanBeSaid_23_4, hc.2.1, if_pos (nI_le (Nat.le_refl _) (by omega))]
    | succ k ih =>
      intro i N hi hN hv
      obtain ⟨N, rfl⟩ : ∃ t, N = t + 1 := ⟨N - 1, by omega⟩
      rw [fX2_whatCanBeSaid_23_4, hc.2.1, if_neg (nI_ge (by omega) (by omega)), bo_v (c_isOver hd hb), if_01, if_pos hv, bo_v (c_bears hF hc hd hb hn hx (by omega)), if_10]
      have hw := wob_lt (fun i => decide (dS d + near F d i ≤ fB F x)) i
      have := ih (i + 1) N (by omega) (by omega) hv
      unfold fX2_whatCanBeSaid_23_34
      simp only [nm]
      by_cases h : dS d + near F d i ≤ fB F x
      · rw [if_pos h]
        rw [wob, if_pos (by simp; omega)] at this
        rw [nI_1, or_bit (by omega) hw]
        exact this
      · rw [if_neg h]
        rw [wob, if_neg (by simp; omega), Nat.add_zero] at this
        rw [nI_1]
        exact this
  by_cases hv : dV d = 0
  · rw [if_pos hv]
    exact lp (fQ F) 0 FU (by omega) (FU_lt (by omega)) hv
  · rw [if_neg hv]
    have hF' : FU = 999999999999 + 1 := rfl
    rw [hF', fX2_whatCanBeSaid_23_4, hc.2.1, bo_v (c_isOver hd hb), if_01, if_neg hv]
    by_cases q : nI (fQ F) ≤ 0
    · rw [if_pos q]; rfl
    · rw [if_neg q]; rfl
theorem m_can (hF : FamOk F) (hm : FamM F m) (hd : DynM 0 d (m.1 1)) (hb : Bd n d) (hn : n ≤ 60) {x : Nat} (hx : x < fP F) : fX8_can_14 (nI x) m FU 0 0 = some (nI (wCan F d x)) := by
  unfold wCan
  have hq := hF.q
  have lp : ∀ k i N, i + k = fQ F → k < N → dV d = 0 → fX8_can_14 (nI x) m N (nI (wob (fun i => decide (dS d + near F d i ≤ fB F x)) i)) (nI i) = some (nI (wob (fun i => decide (dS d + near F d i ≤ fB F x)) (fQ F))) := by
    intro k
    induction k with
    | zero =>
      intro i N hx hN hv
      obtain ⟨N, rfl⟩ : ∃ t, N = t + 1 := ⟨N - 1, by omega⟩
      have : i = fQ F := by omega
      subst this
      rw [fX8_can_14, hm.2.1, if_pos (nI_le (Nat.le_refl _) (by omega))]
    | succ k ih =>
      intro i N hi hN hv
      obtain ⟨N, rfl⟩ : ∃ t, N = t + 1 := ⟨N - 1, by omega⟩
      rw [fX8_can_14, hm.2.1, if_neg (nI_ge (by omega) (by omega)), bo_v (m_isOver hd hb), if_01, if_pos hv, bo_v (m_bears hF hm hd hb hn hx (by omega)), if_10]
      have hw := wob_lt (fun i => decide (dS d + near F d i ≤ fB F x)) i
      have := ih (i + 1) N (by omega) (by omega) hv
      unfold fX8_can_45 fX8_can_46
      simp only [nm]
      by_cases h : dS d + near F d i ≤ fB F x
      · rw [if_pos h]
        rw [wob, if_pos (by simp; omega)] at this
        rw [nI_1, or_bit (by omega) hw]
        exact this
      · rw [if_neg h]
        rw [wob, if_neg (by simp; omega), Nat.add_zero] at this
        rw [nI_1, or_0]
        exact this
  have lq : ∀ k i N, i + k = fQ F → k < N → ¬ dV d = 0 → fX8_can_14 (nI x) m N (nI 0) (nI i) = some (nI 0) := by
    intro k
    induction k with
    | zero =>
      intro i N hx hN hv
      obtain ⟨N, rfl⟩ : ∃ t, N = t + 1 := ⟨N - 1, by omega⟩
      have : i = fQ F := by omega
      subst this
      rw [fX8_can_14, hm.2.1, if_pos (nI_le (Nat.le_refl _) (by omega))]
    | succ k ih =>
      intro i N hi hN hv
      obtain ⟨N, rfl⟩ : ∃ t, N = t + 1 := ⟨N - 1, by omega⟩
      rw [fX8_can_14, hm.2.1, if_neg (nI_ge (by omega) (by omega)), bo_v (m_isOver hd hb), if_01, if_neg hv]
      unfold fX8_can_45 fX8_can_46
      simp only [nm]
      rw [nI_1, or_0]
      exact ih (i + 1) N (by omega) (by omega) hv
  by_cases hv : dV d = 0
  · rw [if_pos hv]
    exact lp (fQ F) 0 FU (by omega) (FU_lt (by omega)) hv
  · rw [if_neg hv]
    exact lq (fQ F) 0 FU (by omega) (FU_lt (by omega)) hv
end PW
theorem sim_can {c m : Mm} (h : Rel c m) (x1 : Int32) : Sim1 (fX7_can x1 c) (fX8_can x1 m) := by
  obtain ⟨F, n, hF, hc, hm, ⟨ho, hz, hd, hB⟩, hk⟩ := id h.1
  have hn := ho.1
  have hb := rep_Bd hF ho n (Nat.le_refl _)
  unfold fX7_can fX7_can_E fX8_can fX8_can_E
  rw [bo_v (c_isOne hF hc x1), bo_v (m_isOne hF hm x1), if_10, if_10, bo_id]
  by_cases h1 : inb x1 (fP F) = true
  · rw [if_pos h1, if_pos h1]
    obtain ⟨x, hx, -, rfl⟩ := inb_ex h1
    rw [c_can hF hc hd hb (by omega) hx, m_can hF hm hB.2.1 hb (by omega) hx]
    exact Sim1.ret _
  · rw [if_neg h1, if_neg h1]; exact Sim1.ret _
theorem sim_over {c m : Mm} (h : Rel c m) (x1 : Int32) : Sim1 (fX7_over x1 c) (fX8_over x1 m) := by
  obtain ⟨F, n, hF, hc, hm, ⟨ho, hz, hd, hB⟩, hk⟩ := id h.1
  have hn := ho.1
  have hb := rep_Bd hF ho n (Nat.le_refl _)
  unfold fX7_over fX7_over_E fX8_over fX8_over_E
  rw [bo_v (c_isSaying hF hc x1), bo_v (m_isSaying hF hm x1), if_10, if_10, bo_id, bo_id]
  by_cases h1 : inb x1 (fQ F) = true
  · rw [if_pos h1, if_pos h1]
    obtain ⟨x, hx, -, rfl⟩ := inb_ex h1
    rw [c_who hF hc hd hb (by omega) hx, m_who hF hm hB.2.1 hb (by omega) hx]
    exact Sim1.ret _
  · rw [if_neg h1, if_neg h1]; exact Sim1.ret _

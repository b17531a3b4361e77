/-! PURE: what holds between the class's memory c and the reference's m -/
def BlockM (F : Fam) (dd : Nat → Int32) (n b : Nat) (r : Nat → Int32) : Prop := r b = nI n ∧ DynM b (rep F dd n) r ∧ ∀ j, j < n → DynM (b + 10 + 10 * j) (rep F dd j) r
def okD (F : Fam) (dd : Nat → Int32) (n : Nat) : Prop := n ≤ 40 ∧ ∀ j, j < n → dd j = -1 ∨ ∃ x i, x < fP F ∧ i < fQ F ∧ dd j = nI (6 * x + i) ∧ dV (rep F dd j) = 0
def RelKept (F : Fam) (c m : Mm) : Prop := ∀ k, k < 3 → (c.1 19 k = -1 ∧ m.1 1 (411 * (k + 1)) = -1) ∨ ∃ n, c.1 19 k = nI n ∧ okD F (c.1 (20 + k)) n ∧ BlockM F (c.1 (20 + k)) n (411 * (k + 1)) (m.1 1)
def RelDeeds (F : Fam) (n : Nat) (c m : Mm) : Prop := okD F (c.1 29) n ∧ c.1 23 11 = nI n ∧ DynC (rep F (c.1 29) n) c ∧ BlockM F (c.1 29) n 0 (m.1 1)
def RelFam (c m : Mm) : Prop := ∃ F n, FamOk F ∧ FamC F c ∧ FamM F m ∧ RelDeeds F n c m ∧ RelKept F c m
def RelRows (c m : Mm) : Prop := ∀ r, r < 6 → c.1 3 r = m.1 6 r ∧ (c.1 3 r = -1 ∨ ∃ n, n ≤ 40 ∧ c.1 3 r = nI n) ∧ ∀ i, i < 40 → c.1 (4 + r) i = m.1 7 (40 * r + i)
def RelTexts (c m : Mm) : Prop := ∀ t, t < 4 → c.1 12 t = m.1 8 t ∧ (c.1 12 t = -1 ∨ ∃ n, n ≤ 60 ∧ c.1 12 t = nI n) ∧ ∀ i, i < 60 → c.1 (13 + t) i = m.1 9 (60 * t + i) ∧ -128 ≤ (c.1 (13 + t) i).toInt ∧ (c.1 (13 + t) i).toInt < 128
def RelTell (c m : Mm) : Prop := c.1 0 9 = m.1 0 12 ∧ c.2.1 0 10 = m.2.1 0 13 ∧ c.2.1 0 11 = m.2.1 0 14 ∧ c.1 0 8 = m.1 0 15 ∧ ∀ f, 1 ≤ f → f ≤ 5 → c.1 43 f = m.1 10 f
def Rel (c m : Mm) : Prop := RelFam c m ∧ RelRows c m ∧ RelTexts c m ∧ RelTell c m
def Sim (x y : Option (Int32 × Mm)) : Prop := ∃ r c m, x = some (r, c) ∧ y = some (r, m) ∧ Rel c m
theorem Sim.ret {r : Int32} {c m : Mm} (h : Rel c m) : Sim (some (r, c)) (some (r, m)) := ⟨r, c, m, rfl, rfl, h⟩
theorem bd_id {x : Option (Int32 × Mm)} : bd x (fun r w => some (r, w)) = x := by
  cases x with
  | none => rfl
  | some q => rfl
theorem bo_id {α : Type} {x : Option α} : bo x (fun r => some r) = x := by
  cases x with
  | none => rfl
  | some q => rfl
theorem RelFam.cg {c c' m m' : Mm} (h : RelFam c m) (hc : ∀ p, 19 ≤ p → p ≤ 29 → c'.1 p = c.1 p) (hm : ∀ p, 1 ≤ p → p ≤ 5 → m'.1 p = m.1 p) (h1 : m'.1 0 1 = m.1 0 1) (h3 : m'.1 0 3 = m.1 0 3) (h7 : m'.1 0 7 = m.1 0 7) : RelFam c' m' := by
  obtain ⟨F, n, g1, g2, g3, g4, g5⟩ := h
  refine ⟨F, n, g1, ?_, ?_, ?_, ?_⟩
  · unfold FamC
    rw [hc 23 (by decide) (by decide), hc 24 (by decide) (by decide), hc 25 (by decide) (by decide), hc 26 (by decide) (by decide), hc 27 (by decide) (by decide)]
    exact g2
  · unfold FamM
    rw [h1, h3, h7, hm 2 (by decide) (by decide), hm 3 (by decide) (by decide), hm 4 (by decide) (by decide), hm 5 (by decide) (by decide)]
    exact g3
  · unfold RelDeeds DynC
    rw [hc 23 (by decide) (by decide), hc 28 (by decide) (by decide), hc 29 (by decide) (by decide), hm 1 (by decide) (by decide)]
    exact g4
  · intro k hk
    rw [hc 19 (by decide) (by decide), hc (20 + k) (by omega) (by omega), hm 1 (by decide) (by decide)]
    exact g5 k hk
theorem RelRows.cg {c c' m m' : Mm} (h : RelRows c m) (hc : ∀ p, 3 ≤ p → p < 10 → c'.1 p = c.1 p) (h6 : m'.1 6 = m.1 6) (h7 : m'.1 7 = m.1 7) : RelRows c' m' := by
  intro r hr
  rw [hc 3 (by decide) (by decide), hc (4 + r) (by omega) (by omega), h6, h7]
  exact h r hr
theorem RelTexts.cg {c c' m m' : Mm} (h : RelTexts c m) (hc : ∀ p, 12 ≤ p → p < 17 → c'.1 p = c.1 p) (h6 : m'.1 8 = m.1 8) (h7 : m'.1 9 = m.1 9) : RelTexts c' m' := by
  intro r hr
  rw [hc 12 (by decide) (by decide), hc (13 + r) (by omega) (by omega), h6, h7]
  exact h r hr
theorem RelTell.cg {c c' m m' : Mm} (h : RelTell c m) (h0 : c'.1 0 9 = c.1 0 9) (h1 : c'.1 0 8 = c.1 0 8) (h2 : c'.2.1 = c.2.1) (h3 : c'.1 43 = c.1 43) (k0 : m'.1 0 12 = m.1 0 12) (k1 : m'.1 0 15 = m.1 0 15) (k2 : m'.2.1 = m.2.1) (k3 : m'.1 10 = m.1 10) : RelTell c' m' := by
  unfold RelTell
  rw [h0, h1, h2, h3, k0, k1, k2, k3]
  exact h
/-- an answer that is a finding -/
theorem sim_find {c m : Mm} (h : Rel c m) {f : Int32} {k : Nat} (hf : f = nI k) (h1 : 1 ≤ k) (h5 : k ≤ 5) : Sim (fX7_refuse f c) (fX8_find f m) := by
  subst hf
  unfold fX7_refuse fX7_refuse_E fX8_find fX8_find_E
  simp only [nm]
  rw [gd_t (inb_nI (by omega) (by decide)), gd_t (inb_nI (by omega) (by decide)), nI_clamp (by omega)]
  obtain ⟨r1, r2, r3, r4⟩ := h
  have a43 : (sA c 0 8 (nI k)).1 43 = c.1 43 := sA_ne (by decide)
  have b10 : (sA m 0 15 (nI k)).1 10 = m.1 10 := sA_ne (by decide)
  refine ⟨_, _, _, rfl, rfl, r1.cg (fun p h1 h2 => ?_) (fun p h1 h2 => ?_) ?_ ?_ ?_, r2.cg (fun p h1 h2 => ?_) ?_ ?_, r3.cg (fun p h1 h2 => ?_) ?_ ?_, ?_⟩
  · rw [sA_ne (by omega), sA_ne (by omega)]
  · rw [sA_ne (by omega), sA_ne (by omega)]
  · rw [sA_ne (by decide), sA_eq, upd_ne (by decide)]
  · rw [sA_ne (by decide), sA_eq, upd_ne (by decide)]
  · rw [sA_ne (by decide), sA_eq, upd_ne (by decide)]
  · rw [sA_ne (by omega), sA_ne (by omega)]
  · rw [sA_ne (by decide), sA_ne (by decide)]
  · rw [sA_ne (by decide), sA_ne (by decide)]
  · rw [sA_ne (by omega), sA_ne (by omega)]
  · rw [sA_ne (by decide), sA_ne (by decide)]
  · rw [sA_ne (by decide), sA_ne (by decide)]
  · refine ⟨?_, r4.2.1, r4.2.2.1, ?_, fun f f1 f5 => ?_⟩
    · rw [sA_ne (by decide), sA_eq, upd_ne (by decide), sA_ne (by decide), sA_eq, upd_ne (by decide)]
      exact r4.1
    · rw [sA_ne (by decide), sA_eq, upd_eq, sA_ne (by decide), sA_eq, upd_eq]
    · rw [sA_eq, sA_eq, a43, b10]
      by_cases e : f = k
      · subst e
        rw [upd_eq, upd_eq, r4.2.2.2.2 f f1 f5]
      · rw [upd_ne e, upd_ne e, r4.2.2.2.2 f f1 f5]
/-! loops over memories -/
def itr (step : Nat → Mm → Mm) : Nat → Nat → Mm → Mm
  | _, 0, w => w
  | j, k + 1, w => itr step (j + 1) k (step j w)
theorem lp_i {α : Type} {f : Nat → Int32 → Mm → Option α} {step : Nat → Mm → Mm} {fin : Mm → Option α} (Inv : Nat → Mm → Prop) (e : Nat) (hs : ∀ n j w, j < e → Inv j w → f (n + 1) (nI j) w = f n (nI (j + 1)) (step j w) ∧ Inv (j + 1) (step j w)) (hx : ∀ n w, Inv e w → f (n + 1) (nI e) w = fin w) : ∀ (k j n : Nat) (w : Mm), j + k = e → k < n → Inv j w → f n (nI j) w = fin (itr step j k w) := by
  intro k
  induction k with
  | zero =>
    intro j n w he hn hi
    obtain ⟨n, rfl⟩ : ∃ t, n = t + 1 := ⟨n - 1, by omega⟩
    have : j = e := by omega
    subst this
    exact hx n w hi
  | succ k ih =>
    intro j n w he hn hi
    obtain ⟨n, rfl⟩ : ∃ t, n = t + 1 := ⟨n - 1, by omega⟩
    obtain ⟨h1, h2⟩ := hs n j w (by omega) hi
    rw [h1]
    exact ih (j + 1) n (step j w) (by omega) (by omega) h2
theorem itr_fill (q b : Nat) (v : Nat → Int32) : ∀ (k j : Nat) (w : Mm), itr (fun j w => sA w q (b + j) (v j)) j k w = sF w q (fun t => if b + j ≤ t ∧ t < b + j + k then v (t - b) else w.1 q t) := by
  intro k
  induction k with
  | zero =>
    intro j w
    show w = _
    have : (fun t => if b + j ≤ t ∧ t < b + j + 0 then v (t - b) else w.1 q t) = w.1 q := by
      funext t
      rw [if_neg (by omega)]
    rw [this, sF_self]
  | succ k ih =>
    intro j w
    show itr _ (j + 1) k (sA w q (b + j) (v j)) = _
    rw [ih, sF_sA]
    congr 1
    funext t
    rw [sA_eq]
    by_cases h : t = b + j
    · subst h
      rw [if_neg (by omega), upd_eq, if_pos (by omega)]
      congr 1
      omega
    · rw [upd_ne h]
      by_cases h2 : b + j ≤ t ∧ t < b + j + (k + 1)
      · rw [if_pos (by omega), if_pos h2]
      · rw [if_neg (by omega), if_neg h2]
/-- copying within a cell, where what is read is not written -/
theorem itr_copy (q a b e : Nat) (hab : a + e ≤ b ∨ b + e ≤ a) : ∀ (k j : Nat) (w : Mm), j + k ≤ e → itr (fun j w => sA w q (b + j) (w.1 q (a + j))) j k w = sF w q (fun t => if b + j ≤ t ∧ t < b + j + k then w.1 q (a + (t - b)) else w.1 q t) := by
  intro k
  induction k with
  | zero =>
    intro j w _
    show w = _
    have : (fun t => if b + j ≤ t ∧ t < b + j + 0 then w.1 q (a + (t - b)) else w.1 q t) = w.1 q := by
      funext t
      rw [if_neg (by omega)]
    rw [this, sF_self]
  | succ k ih =>
    intro j w hj
    show itr _ (j + 1) k (sA w q (b + j) (w.1 q (a + j))) = _
    rw [ih _ _ (by omega), sF_sA]
    congr 1
    funext t
    rw [sA_eq]
    by_cases h : t = b + j
    · subst h
      rw [if_neg (by omega), upd_eq, if_pos (by omega), Nat.add_sub_cancel_left]
    · rw [upd_ne h]
      by_cases h2 : b + j ≤ t ∧ t < b + j + (k + 1)
      · rw [if_pos (by omega), if_pos h2, upd_ne (by omega)]
      · rw [if_neg (by omega), if_neg h2]
theorem FU_lt {k : Nat} (h : k < 1000000000) : k < FU := by unfold FU; omega

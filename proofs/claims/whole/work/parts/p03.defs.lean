/-! PURE: families, how things stand, deeds -/
abbrev Fam : Type := Nat × Nat × Nat × (Nat → Nat) × (Nat → Nat) × (Nat → Nat) × (Nat → Nat)
def fP (F : Fam) : Nat := F.1
def fQ (F : Fam) : Nat := F.2.1
def fU (F : Fam) : Nat := F.2.2.1
def fB (F : Fam) : Nat → Nat := F.2.2.2.1
def fK (F : Fam) : Nat → Nat := F.2.2.2.2.1
def fT (F : Fam) : Nat → Nat := F.2.2.2.2.2.1
def fO (F : Fam) : Nat → Nat := F.2.2.2.2.2.2
abbrev Dyn : Type := Nat × Nat × Nat × Nat × (Nat → Nat)
def dS (d : Dyn) : Nat := d.1
def dT (d : Dyn) : Nat := d.2.1
def dV (d : Dyn) : Nat := d.2.2.1
def dD (d : Dyn) : Nat := d.2.2.2.1
def dN (d : Dyn) : Nat → Nat := d.2.2.2.2
def pc6 (t : Nat) : Nat := t % 2 + t / 2 % 2 + t / 4 % 2 + t / 8 % 2 + t / 16 % 2 + t / 32 % 2
def opn (t : Nat) : Nat := 3 - (t % 2 + t / 2 % 2 + t / 4 % 2)
def nr (k t s o : Nat) : Nat := if k = 1 then t + s else if k = 2 then t / 2 else if k = 3 then t + s - 2 else if k = 4 then t / 2 + o else if k = 5 then 2 * (t + s) else t
def near (F : Fam) (d : Dyn) (i : Nat) : Nat := nr (fK F i) (fT F i) (dN d i) (opn (dT d))
def utt (F : Fam) (d : Dyn) (x i : Nat) : Dyn := (dS d + near F d i, dT d ||| fO F i, if fB F x < dS d + near F d i then x + 1 else 0, dD d, fun j => if j = i then dN d j + 1 else dN d j)
def eas (d : Dyn) : Dyn := (dS d - 1, dT d, dV d, dD d, dN d)
def dayd (d : Dyn) : Dyn := (dS d - 1, dT d, dV d, dD d + 1, dN d)
def dyn0 : Dyn := (0, 0, 0, 0, fun _ => 0)
def ena (F : Fam) (d : Dyn) (v : Int32) : Dyn := if v = -1 then dayd d else utt F d (v.toNatClampNeg / 6) (v.toNatClampNeg % 6)
def rep (F : Fam) (dd : Nat → Int32) : Nat → Dyn
  | 0 => dyn0
  | j + 1 => ena F (rep F dd j) (dd j)
def ovI (o : Nat) : Int32 := if o = 0 then -9 else nI (o - 1)
def FamOk (F : Fam) : Prop := fP F ≤ 4 ∧ fQ F ≤ 6 ∧ fU F < 4096 ∧ (∀ x, x < fP F → fB F x ≤ 9) ∧ (∀ i, i < fQ F → fK F i ≤ 5 ∧ fT F i ≤ 9 ∧ fO F i ≤ 7) ∧ (fP F = 0 ↔ fQ F = 0)
def Bd (n : Nat) (d : Dyn) : Prop := dS d ≤ 300 * n ∧ dT d ≤ 7 ∧ dV d ≤ 4 ∧ dD d ≤ n ∧ ∀ i, dN d i ≤ n
def FamC (F : Fam) (c : Mm) : Prop := c.1 23 0 = nI (fP F) ∧ c.1 23 2 = nI (fQ F) ∧ c.1 23 6 = nI (fU F) ∧ (∀ x, x < fP F → c.1 24 x = nI (fB F x)) ∧ ∀ i, i < fQ F → c.1 25 i = nI (fK F i) ∧ c.1 26 i = nI (fT F i) ∧ c.1 27 i = nI (fO F i)
def FamM (F : Fam) (m : Mm) : Prop := m.1 0 1 = nI (fP F) ∧ m.1 0 3 = nI (fQ F) ∧ m.1 0 7 = nI (fU F) ∧ (∀ x, x < fP F → m.1 2 x = nI (fB F x)) ∧ ∀ i, i < fQ F → m.1 3 i = nI (fK F i) ∧ m.1 4 i = nI (fT F i) ∧ m.1 5 i = nI (fO F i)
def DynC (d : Dyn) (c : Mm) : Prop := c.1 23 7 = nI (dS d) ∧ c.1 23 8 = nI (dT d) ∧ c.1 23 9 = ovI (dV d) ∧ ∀ i, i < 6 → c.1 28 i = nI (dN d i)
def DynM (b : Nat) (d : Dyn) (r : Nat → Int32) : Prop := r (b + 1) = nI (dD d) ∧ r (b + 2) = nI (dS d) ∧ r (b + 3) = nI (dT d) ∧ r (b + 4) = ovI (dV d) ∧ ∀ i, i < 6 → r (b + 5 + i) = nI (dN d i)
/-- what the class's turns may change; what the reference's may -/
def FrC (c c' : Mm) : Prop := (∀ p, p ≠ 23 → p ≠ 28 → c'.1 p = c.1 p) ∧ (∀ k, k ≠ 7 → k ≠ 8 → k ≠ 9 → c'.1 23 k = c.1 23 k) ∧ c'.2 = c.2
def FrM (b : Nat) (m m' : Mm) : Prop := (∀ p, p ≠ 1 → m'.1 p = m.1 p) ∧ (∀ k, k < b + 1 ∨ b + 11 ≤ k → m'.1 1 k = m.1 1 k) ∧ m'.2 = m.2
theorem FrC.rfl' (c : Mm) : FrC c c := ⟨fun _ _ _ => rfl, fun _ _ _ _ => rfl, rfl⟩
theorem FrC.trans {a b c : Mm} (h : FrC a b) (h2 : FrC b c) : FrC a c := ⟨fun p h1 h3 => (h2.1 p h1 h3).trans (h.1 p h1 h3), fun k h1 h3 h4 => (h2.2.1 k h1 h3 h4).trans (h.2.1 k h1 h3 h4), h2.2.2.trans h.2.2⟩
theorem FrM.rfl' (b : Nat) (m : Mm) : FrM b m m := ⟨fun _ _ => rfl, fun _ _ => rfl, rfl⟩
theorem FrM.trans {q : Nat} {a b c : Mm} (h : FrM q a b) (h2 : FrM q b c) : FrM q a c := ⟨fun p h1 => (h2.1 p h1).trans (h.1 p h1), fun k h1 => (h2.2.1 k h1).trans (h.2.1 k h1), h2.2.2.trans h.2.2⟩
theorem FamC.fr {F : Fam} {c c' : Mm} (h : FamC F c) (f : FrC c c') : FamC F c' := by
  obtain ⟨h1, h2, h3, h4, h5⟩ := h
  obtain ⟨f1, f2, -⟩ := f
  refine ⟨by rw [f2 0 (by decide) (by decide) (by decide)]; exact h1, by rw [f2 2 (by decide) (by decide) (by decide)]; exact h2, by rw [f2 6 (by decide) (by decide) (by decide)]; exact h3, fun x hx => by rw [f1 24 (by decide) (by decide)]; exact h4 x hx, fun i hi => ?_⟩
  rw [f1 25 (by decide) (by decide), f1 26 (by decide) (by decide), f1 27 (by decide) (by decide)]
  exact h5 i hi
theorem FamM.fr {F : Fam} {b : Nat} {m m' : Mm} (h : FamM F m) (f : FrM b m m') : FamM F m' := by
  obtain ⟨h1, h2, h3, h4, h5⟩ := h
  obtain ⟨f1, -, -⟩ := f
  refine ⟨by rw [f1 0 (by decide)]; exact h1, by rw [f1 0 (by decide)]; exact h2, by rw [f1 0 (by decide)]; exact h3, fun x hx => by rw [f1 2 (by decide)]; exact h4 x hx, fun i hi => ?_⟩
  rw [f1 3 (by decide), f1 4 (by decide), f1 5 (by decide)]
  exact h5 i hi
/-! small numbers, by looking at all -/
set_option maxRecDepth 100000 in
theorem bc_eq : ∀ t, t < 64 → fJ6_bitCount_0f7a4 (nI t) = some (nI (pc6 t)) := by decide +kernel
set_option maxRecDepth 100000 in
theorem op_eq : ∀ t, t < 8 → fX8_openOf (nI t) = some (nI (opn t)) := by decide +kernel
set_option maxRecDepth 100000 in
theorem bits_eq : ∀ t, t < 64 → fX8_bits (nI t) = some (nI (pc6 t)) := by decide +kernel
theorem nI_lit0 : (0 : Int32) = nI 0 := rfl
theorem nI_lit1 : (1 : Int32) = nI 1 := rfl
theorem nI_lit2 : (2 : Int32) = nI 2 := rfl
theorem nI_lit3 : (3 : Int32) = nI 3 := rfl
theorem nI_lit4 : (4 : Int32) = nI 4 := rfl
theorem nI_lit5 : (5 : Int32) = nI 5 := rfl
theorem opn_le (t : Nat) : opn t ≤ 3 := by unfold opn; omega
theorem nr_le {k t s o : Nat} : nr k t s o ≤ 2 * (t + s) + t + o := by
  unfold nr
  split
  · omega
  · split
    · omega
    · split
      · omega
      · split
        · omega
        · split <;> omega
theorem cnr {k t s o : Nat} (hk : k < 1000) (ht : t < 1000) (hs : s < 1000) (ho : o < 1000) : fX2_nearOf (nI k) (nI t) (nI s) (nI o) = some (nI (nr k t s o)) := by
  unfold fX2_nearOf fX2_nearOf_E nr
  rw [nI_lit1, nI_lit2, nI_lit3, nI_lit4, nI_lit5, nI_lit0]
  simp only [nI_eq (show k < 2 ^ 31 by omega) (show 1 < 2 ^ 31 by decide), nI_eq (show k < 2 ^ 31 by omega) (show 2 < 2 ^ 31 by decide), nI_eq (show k < 2 ^ 31 by omega) (show 3 < 2 ^ 31 by decide), nI_eq (show k < 2 ^ 31 by omega) (show 4 < 2 ^ 31 by decide), nI_eq (show k < 2 ^ 31 by omega) (show 5 < 2 ^ 31 by decide), nI_add, pk_mul, pk_div (show t < 2 ^ 31 by omega) (show 0 < 2 by decide) (show 2 < 2 ^ 31 by decide)]
  by_cases h1 : k = 1
  · simp [h1]
  · by_cases h2 : k = 2
    · simp [h2]
    · by_cases h3 : k = 3
      · simp only [h3, if_pos]
        simp only [show ¬ (3 = 1) by decide, show ¬ (3 = 2) by decide, if_false, if_true]
        congr 1
        by_cases h : 2 < t + s
        · rw [if_pos, pk_sub (by omega)]
          rw [pk_sub (by omega), nI_ltI (by omega) (by omega)]
          omega
        · rw [if_neg]
          · congr 1
            omega
          · by_cases h' : t + s = 2
            · rw [h']; decide
            · have h9 : t + s < 2 := by omega
              intro q
              have := pk_sneg (a := t + s) (b := 2) (by decide) h9
              rw [Int32.lt_iff_toInt_lt] at this q
              have e0 : (nI 0).toInt = 0 := rfl
              have e1 : (0 : Int32).toInt = 0 := rfl
              omega
      · by_cases h4 : k = 4
        · simp [h4]
        · by_cases h5 : k = 5
          · simp [h5]
          · simp [h1, h2, h3, h4, h5]
theorem mnr {k t s o : Nat} (hk : k < 1000) (ht : t < 1000) (hs : s < 1000) (ho : o < 1000) : fX8_nearBy (nI k) (nI t) (nI s) (nI o) = some (nI (nr k t s o)) := by
  unfold fX8_nearBy fX8_nearBy_E nr
  rw [nI_lit1, nI_lit2, nI_lit3, nI_lit4, nI_lit5, nI_lit0]
  simp only [nI_eq (show k < 2 ^ 31 by omega) (show 1 < 2 ^ 31 by decide), nI_eq (show k < 2 ^ 31 by omega) (show 2 < 2 ^ 31 by decide), nI_eq (show k < 2 ^ 31 by omega) (show 3 < 2 ^ 31 by decide), nI_eq (show k < 2 ^ 31 by omega) (show 4 < 2 ^ 31 by decide), nI_eq (show k < 2 ^ 31 by omega) (show 5 < 2 ^ 31 by decide), nI_add, pk_mul, pk_div (show t < 2 ^ 31 by omega) (show 0 < 2 by decide) (show 2 < 2 ^ 31 by decide), nI_leI (show 2 < 2 ^ 31 by decide) (show t + s < 2 ^ 31 by omega)]
  by_cases h1 : k = 1
  · simp [h1]
  · by_cases h2 : k = 2
    · simp [h2]
    · by_cases h3 : k = 3
      · simp only [h3]
        simp only [show ¬ (3 = 1) by decide, show ¬ (3 = 2) by decide, if_false, if_true]
        by_cases h : 2 ≤ t + s
        · rw [if_pos h, pk_sub h]
        · rw [if_neg h, show t + s - 2 = 0 by omega]
      · by_cases h4 : k = 4
        · simp [h4]
        · by_cases h5 : k = 5
          · simp [h5]
          · simp [h1, h2, h3, h4, h5]

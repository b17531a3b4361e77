/-! PURE: the house -/
theorem m1_nI : (-1 : Int32) = nI 4294967295 := by decide
theorem sl31 : ∀ n, n < 32 → ((nI n &&& 31).toBitVec.smod 32).toNat = n := by decide +kernel
theorem tb_ones {i : Nat} (h : i < 32) : Nat.testBit 4294967295 i = true := by
  have : (4294967295 : Nat) = 2 ^ 32 - 1 := rfl
  rw [this, Nat.testBit_two_pow_sub_one]
  exact decide_eq_true h
def nand (a s : Nat) : Nat := a &&& (s ^^^ 4294967295)
theorem nand_eq (a s : Nat) : nI a &&& (nI s ^^^ (-1)) = nI (nand a s) := by
  rw [m1_nI, fb_xorI, fa_and]; rfl
theorem nand_bit {a s i : Nat} (h : i < 32) : (nand a s).testBit i = (a.testBit i && !s.testBit i) := by
  unfold nand
  rw [Nat.testBit_and, Nat.testBit_xor, tb_ones h, Bool.xor_true]
theorem nand_le (a s : Nat) : nand a s ≤ a := Nat.and_le_left
def adj (i j : Nat) : Bool := (i / 4 == j / 4 && (i % 4 == j % 4 + 1 || j % 4 == i % 4 + 1)) || (i % 4 == j % 4 && (i / 4 == j / 4 + 1 || j / 4 == i / 4 + 1))
theorem adj_m : ∀ i, i < 12 → ∀ j, j < 12 → fX8_areBeside (nI i) (nI j) = some (if adj i j = true then 1 else 0) := by decide +kernel
theorem has_m {s i : Nat} (hs : s < 2 ^ 31) (hi : i < 32) : fX8_has (nI s) (nI i) = some (if s.testBit i = true then 1 else 0) := by
  unfold fX8_has fX8_has_E
  rw [pk_shrN hs _ i (sl31 i hi), nI_lit1, fa_and, Nat.and_one_is_mod]
  have h1 : s.testBit i = decide (s / 2 ^ i % 2 = 1) := Nat.testBit_eq_decide_div_mod_eq
  rw [h1]
  have h2 : s / 2 ^ i % 2 < 2 := Nat.mod_lt _ (by decide)
  by_cases h : s / 2 ^ i % 2 = 1
  · rw [h, if_pos rfl, if_pos (by decide)]
  · rw [if_neg (by rw [nI_eq (by omega) (by decide)]; exact h), if_neg (by simp [h])]
def wbN (x : Nat) : Nat := (((x ||| (x * 16 ||| x / 16)) ||| ((x &&& 4294965111) * 2 ||| (x &&& 4294967022) / 2))) &&& 4095
theorem c_wb {x : Nat} (hx : x < 4096) : fX3_withBeside (nI x) = some (nI (wbN x)) := by
  unfold fX3_withBeside fX3_withBeside_E wbN
  simp only [nm]
  have e1 : (-2185 : Int32) = nI 4294965111 := by decide
  have e2 : (-274 : Int32) = nI 4294967022 := by decide
  have e3 : (4095 : Int32) = nI 4095 := rfl
  have a1 : x &&& 4294965111 ≤ x := Nat.and_le_left
  have a2 : x &&& 4294967022 ≤ x := Nat.and_le_left
  rw [e1, e2, e3, fa_and, fa_and, pk_shlN _ 4 (by decide) (by omega), pk_shrN (by omega) _ 4 (by decide), pk_shlN _ 1 (by decide) (by omega), pk_shrN (by omega) _ 1 (by decide), fa_or, fa_or, fa_or, fa_or, fa_and]
/-- reached in so many steps -/
def rch (a s : Nat) : Nat → Nat → Bool
  | 0, i => (i == a) && !s.testBit i
  | k + 1, i => !s.testBit i && (rch a s k i || (List.range 12).any (fun j => adj j i && rch a s k j))
def msk (a s : Nat) : Nat → Nat
  | 0 => nand (2 ^ a) s
  | k + 1 => nand (wbN (msk a s k)) s
theorem tbA0 : Nat.testBit 4294965111 0 = true := rfl
theorem tbA1 : Nat.testBit 4294965111 1 = true := rfl
theorem tbA2 : Nat.testBit 4294965111 2 = true := rfl
theorem tbA3 : Nat.testBit 4294965111 3 = false := rfl
theorem tbA4 : Nat.testBit 4294965111 4 = true := rfl
theorem tbA5 : Nat.testBit 4294965111 5 = true := rfl
theorem tbA6 : Nat.testBit 4294965111 6 = true := rfl
theorem tbA7 : Nat.testBit 4294965111 7 = false := rfl
theorem tbA8 : Nat.testBit 4294965111 8 = true := rfl
theorem tbA9 : Nat.testBit 4294965111 9 = true := rfl
theorem tbA10 : Nat.testBit 4294965111 10 = true := rfl
theorem tbA11 : Nat.testBit 4294965111 11 = false := rfl
theorem tbA12 : Nat.testBit 4294965111 12 = true := rfl
theorem tbB0 : Nat.testBit 4294967022 0 = false := rfl
theorem tbB1 : Nat.testBit 4294967022 1 = true := rfl
theorem tbB2 : Nat.testBit 4294967022 2 = true := rfl
theorem tbB3 : Nat.testBit 4294967022 3 = true := rfl
theorem tbB4 : Nat.testBit 4294967022 4 = false := rfl
theorem tbB5 : Nat.testBit 4294967022 5 = true := rfl
theorem tbB6 : Nat.testBit 4294967022 6 = true := rfl
theorem tbB7 : Nat.testBit 4294967022 7 = true := rfl
theorem tbB8 : Nat.testBit 4294967022 8 = false := rfl
theorem tbB9 : Nat.testBit 4294967022 9 = true := rfl
theorem tbB10 : Nat.testBit 4294967022 10 = true := rfl
theorem tbB11 : Nat.testBit 4294967022 11 = true := rfl
theorem tbB12 : Nat.testBit 4294967022 12 = true := rfl
theorem tbC0 : Nat.testBit 4095 0 = true := rfl
theorem tbC1 : Nat.testBit 4095 1 = true := rfl
theorem tbC2 : Nat.testBit 4095 2 = true := rfl
theorem tbC3 : Nat.testBit 4095 3 = true := rfl
theorem tbC4 : Nat.testBit 4095 4 = true := rfl
theorem tbC5 : Nat.testBit 4095 5 = true := rfl
theorem tbC6 : Nat.testBit 4095 6 = true := rfl
theorem tbC7 : Nat.testBit 4095 7 = true := rfl
theorem tbC8 : Nat.testBit 4095 8 = true := rfl
theorem tbC9 : Nat.testBit 4095 9 = true := rfl
theorem tbC10 : Nat.testBit 4095 10 = true := rfl
theorem tbC11 : Nat.testBit 4095 11 = true := rfl
theorem tbC12 : Nat.testBit 4095 12 = false := rfl
theorem wb_bit {x i : Nat} (hx : x < 4096) (hi : i < 12) : (wbN x).testBit i = (x.testBit i || (List.range 12).any (fun j => adj j i && x.testBit j)) := by
  have hb : ∀ j, 12 ≤ j → x.testBit j = false := fun j hj => Nat.testBit_lt_two_pow (Nat.lt_of_lt_of_le hx (show 2 ^ 12 ≤ 2 ^ j from Nat.pow_le_pow_right (by decide) hj))
  have e1 : x * 16 = x <<< 4 := by rw [Nat.shiftLeft_eq]
  have e2 : x / 16 = x >>> 4 := by rw [Nat.shiftRight_eq_div_pow]
  have e3 : (x &&& 4294965111) * 2 = (x &&& 4294965111) <<< 1 := by rw [Nat.shiftLeft_eq]
  have e4 : (x &&& 4294967022) / 2 = (x &&& 4294967022) >>> 1 := by rw [Nat.shiftRight_eq_div_pow]
  unfold wbN
  rw [e1, e2, e3, e4]
  simp only [Nat.testBit_and, Nat.testBit_or, Nat.testBit_shiftLeft, Nat.testBit_shiftRight]
  have hr : List.range 12 = [0, 1, 2, 3, 4, 5, 6, 7, 8, 9, 10, 11] := rfl
  rw [hr]
  have b12 := hb 12 (by decide)
  have b13 := hb 13 (by decide)
  have b14 := hb 14 (by decide)
  have b15 := hb 15 (by decide)
  rcases (show i = 0 ∨ i = 1 ∨ i = 2 ∨ i = 3 ∨ i = 4 ∨ i = 5 ∨ i = 6 ∨ i = 7 ∨ i = 8 ∨ i = 9 ∨ i = 10 ∨ i = 11 by omega) with rfl | rfl | rfl | rfl | rfl | rfl | rfl | rfl | rfl | rfl | rfl | rfl <;> simp [adj, b12, b13, b14, b15, tbA0, tbA1, tbA2, tbA3, tbA4, tbA5, tbA6, tbA7, tbA8, tbA9, tbA10, tbA11, tbA12, tbB0, tbB1, tbB2, tbB3, tbB4, tbB5, tbB6, tbB7, tbB8, tbB9, tbB10, tbB11, tbB12, tbC0, tbC1, tbC2, tbC3, tbC4, tbC5, tbC6, tbC7, tbC8, tbC9, tbC10, tbC11, tbC12, Bool.or_assoc, Bool.or_comm, Bool.or_left_comm]
/-! scratch cells -/
def ScC (c c' : Mm) : Prop := (∀ p, p ≤ 29 → c'.1 p = c.1 p) ∧ c'.1 43 = c.1 43 ∧ c'.2.1 0 = c.2.1 0
def ScM (m m' : Mm) : Prop := (∀ p, 2 ≤ p → p ≤ 10 → m'.1 p = m.1 p) ∧ (∀ t, t < 1644 → m'.1 1 t = m.1 1 t) ∧ (∀ k, k ≤ 15 → m'.1 0 k = m.1 0 k) ∧ m'.2.1 0 = m.2.1 0
theorem ScC.rfl' (c : Mm) : ScC c c := ⟨fun _ _ => rfl, rfl, rfl⟩
theorem ScM.rfl' (m : Mm) : ScM m m := ⟨fun _ _ _ => rfl, fun _ _ => rfl, fun _ _ => rfl, rfl⟩
theorem ScC.trans {a b c : Mm} (h : ScC a b) (g : ScC b c) : ScC a c := ⟨fun p hp => (g.1 p hp).trans (h.1 p hp), g.2.1.trans h.2.1, g.2.2.trans h.2.2⟩
theorem ScM.trans {a b c : Mm} (h : ScM a b) (g : ScM b c) : ScM a c := ⟨fun p h1 h2 => (g.1 p h1 h2).trans (h.1 p h1 h2), fun t ht => (g.2.1 t ht).trans (h.2.1 t ht), fun k hk => (g.2.2.1 k hk).trans (h.2.2.1 k hk), g.2.2.2.trans h.2.2.2⟩
theorem FamM.sc {F : Fam} {m m' : Mm} (h : FamM F m) (g : ScM m m') : FamM F m' := by
  unfold FamM
  rw [g.2.2.1 1 (by decide), g.2.2.1 3 (by decide), g.2.2.1 7 (by decide), g.1 2 (by decide) (by decide), g.1 3 (by decide) (by decide), g.1 4 (by decide) (by decide), g.1 5 (by decide) (by decide)]
  exact h
theorem FamC.sc {F : Fam} {c c' : Mm} (h : FamC F c) (g : ScC c c') : FamC F c' := by
  unfold FamC
  rw [g.1 23 (by decide), g.1 24 (by decide), g.1 25 (by decide), g.1 26 (by decide), g.1 27 (by decide)]
  exact h
theorem Rel.sc {c c' m m' : Mm} (h : Rel c m) (gc : ScC c c') (gm : ScM m m') : Rel c' m' := by
  obtain ⟨⟨F, n, hF, hc, hm, ⟨ho, hz, hd, hB⟩, hk⟩, r2, r3, r4⟩ := h
  refine ⟨⟨F, n, hF, hc.sc gc, hm.sc gm, ⟨by rw [gc.1 29 (by decide)]; exact ho, by rw [gc.1 23 (by decide)]; exact hz, ?_, by rw [gc.1 29 (by decide)]; exact hB.cg ho.1 (fun t ht => gm.2.1 _ (by omega))⟩, hk.cg (gc.1 19 (by decide)) (fun k hk => gc.1 _ (by omega)) (fun t h1 h2 => gm.2.1 t h2)⟩, r2.cg (fun p h1 h2 => gc.1 p (by omega)) (gm.1 6 (by decide) (by decide)) (gm.1 7 (by decide) (by decide)), r3.cg (fun p h1 h2 => gc.1 p (by omega)) (gm.1 8 (by decide) (by decide)) (gm.1 9 (by decide) (by decide)), ?_⟩
  · unfold DynC
    rw [gc.1 23 (by decide), gc.1 28 (by decide), gc.1 29 (by decide)]
    exact hd
  · unfold RelTell
    rw [gc.1 0 (by decide), gc.2.1, gc.2.2, gm.2.2.1 12 (by decide), gm.2.2.1 15 (by decide), gm.2.2.2, gm.1 10 (by decide) (by decide)]
    exact r4
/-! reached -/
theorem any_cong {p q : Nat → Bool} : ∀ {l : List Nat}, (∀ j, j ∈ l → p j = q j) → l.any p = l.any q
  | [], _ => rfl
  | x :: l, h => by rw [List.any_cons, List.any_cons, h x (List.mem_cons_self ..), any_cong (fun j hj => h j (List.mem_cons_of_mem _ hj))]
section PH
variable {a s b : Nat}
theorem msk_lt (ha : a < 12) : ∀ k, msk a s k < 4096
  | 0 => Nat.lt_of_le_of_lt (nand_le _ _) (show 2 ^ a < 2 ^ 12 from Nat.pow_lt_pow_right (by decide) ha)
  | k + 1 => Nat.lt_of_le_of_lt (nand_le _ _) (by
    have : wbN (msk a s k) ≤ 4095 := Nat.and_le_right
    omega)
theorem msk_bit (ha : a < 12) : ∀ k i, i < 12 → (msk a s k).testBit i = rch a s k i
  | 0, i, hi => by
    rw [msk, nand_bit (by omega), Nat.testBit_two_pow, rch]
    congr 1
    by_cases e : a = i
    · subst e; simp
    · rw [decide_eq_false e]
      exact (beq_eq_false_iff_ne.mpr (fun q => e q.symm)).symm
  | k + 1, i, hi => by
    rw [msk, nand_bit (by omega), wb_bit (msk_lt ha k) hi, msk_bit ha k i hi, rch, Bool.and_comm]
    congr 2
    refine any_cong (fun j hj => ?_)
    rw [msk_bit ha k j (List.mem_range.mp hj)]
theorem rch_free : ∀ {k i}, rch a s k i = true → s.testBit i = false
  | 0, i, h => by
    rw [rch, Bool.and_eq_true] at h
    simpa using h.2
  | k + 1, i, h => by
    rw [rch, Bool.and_eq_true] at h
    simpa using h.1
theorem rch_mono {k i : Nat} (h : rch a s k i = true) : rch a s (k + 1) i = true := by
  have := rch_free h
  rw [rch, this, h]; rfl
theorem rch_next {k i j : Nat} (h : rch a s k j = true) (hj : j < 12) (hA : adj j i = true) (hs : s.testBit i = false) : rch a s (k + 1) i = true := by
  rw [rch, hs, Bool.not_false, Bool.true_and, Bool.or_eq_true]
  exact Or.inr (List.any_eq_true.mpr ⟨j, List.mem_range.mpr hj, by rw [hA, h]; rfl⟩)
theorem rch_step {k i : Nat} (h : rch a s (k + 1) i = true) : rch a s k i = true ∨ (s.testBit i = false ∧ ∃ j, j < 12 ∧ adj j i = true ∧ rch a s k j = true) := by
  have hf := rch_free h
  rw [rch, hf, Bool.not_false, Bool.true_and, Bool.or_eq_true] at h
  rcases h with h | h
  · exact Or.inl h
  · obtain ⟨j, hj, h⟩ := List.any_eq_true.mp h
    rw [Bool.and_eq_true] at h
    exact Or.inr ⟨hf, j, List.mem_range.mp hj, h.1, h.2⟩
def DD (a s : Nat) : Nat → Nat → Int32
  | 0, i => if rch a s 0 i = true then nI 0 else -9
  | k + 1, i => if rch a s k i = true then DD a s k i else if rch a s (k + 1) i = true then nI (k + 1) else -9
def nw (a s : Nat) : Nat → Nat → Bool
  | 0, i => rch a s 0 i
  | k + 1, i => rch a s (k + 1) i && !rch a s k i
theorem nI_ne9 {k : Nat} (h : k < 2 ^ 31) : ¬ nI k = -9 := by
  intro q
  have q := congrArg Int32.toInt q
  rw [nI_toInt h] at q
  have : (-9 : Int32).toInt = -9 := rfl
  omega
theorem DD_le : ∀ {k i}, rch a s k i = true → ∃ j, j ≤ k ∧ DD a s k i = nI j
  | 0, i, h => ⟨0, Nat.le_refl _, by rw [DD, if_pos h]⟩
  | k + 1, i, h => by
    rw [DD]
    by_cases q : rch a s k i = true
    · obtain ⟨j, h1, h2⟩ := DD_le q
      rw [if_pos q]
      exact ⟨j, by omega, h2⟩
    · rw [if_neg q, if_pos h]
      exact ⟨k + 1, Nat.le_refl _, rfl⟩
theorem DD_no : ∀ {k i}, ¬ rch a s k i = true → DD a s k i = -9
  | 0, i, h => by rw [DD, if_neg h]
  | k + 1, i, h => by rw [DD, if_neg (fun q => h (rch_mono q)), if_neg h]
theorem DD_9 {k i : Nat} (hk : k < 100) : DD a s k i = -9 ↔ ¬ rch a s k i = true := by
  refine ⟨fun h q => ?_, DD_no⟩
  obtain ⟨j, h1, h2⟩ := DD_le q
  rw [h2] at h
  exact nI_ne9 (by omega) h
theorem nw_rch : ∀ {k i}, nw a s k i = true → rch a s k i = true
  | 0, i, h => h
  | k + 1, i, h => by rw [nw, Bool.and_eq_true] at h; exact h.1
theorem DD_new : ∀ {k i}, k < 100 → (DD a s k i = nI k ↔ nw a s k i = true)
  | 0, i, hk => by
    rw [DD, nw]
    by_cases q : rch a s 0 i = true
    · rw [if_pos q]; exact ⟨fun _ => q, fun _ => rfl⟩
    · rw [if_neg q]; exact ⟨fun h => absurd h.symm (nI_ne9 (by decide)), fun h => absurd h q⟩
  | k + 1, i, hk => by
    rw [DD, nw]
    by_cases q : rch a s k i = true
    · rw [if_pos q]
      obtain ⟨j, h1, h2⟩ := DD_le q
      rw [h2, nI_eq (by omega) (by omega), q, Bool.not_true, Bool.and_false]
      exact ⟨fun h => by omega, fun h => absurd h (by decide)⟩
    · rw [if_neg q]
      have q' : rch a s k i = false := by simpa using q
      rw [q', Bool.not_false, Bool.and_true]
      by_cases q2 : rch a s (k + 1) i = true
      · rw [if_pos q2]; exact ⟨fun _ => q2, fun _ => rfl⟩
      · rw [if_neg q2]; exact ⟨fun h => absurd h.symm (nI_ne9 (by omega)), fun h => absurd h q2⟩
/-! twelve rooms: what is reached in 12 steps is reached in 11 -/
def tn (a s k i : Nat) : Nat := (rch a s k i).toNat
theorem tn_mono (k i : Nat) : tn a s k i ≤ tn a s (k + 1) i := by
  unfold tn
  by_cases h : rch a s k i = true
  · rw [h, rch_mono h]; exact Nat.le_refl _
  · have h : rch a s k i = false := by simpa using h
    rw [h]; exact Nat.zero_le _
theorem tn_le (k i : Nat) : tn a s k i ≤ 1 := by
  unfold tn
  cases rch a s k i <;> decide
def cn (a s k : Nat) : Nat := tn a s k 0 + tn a s k 1 + tn a s k 2 + tn a s k 3 + tn a s k 4 + tn a s k 5 + tn a s k 6 + tn a s k 7 + tn a s k 8 + tn a s k 9 + tn a s k 10 + tn a s k 11
theorem tn_eq {k l i : Nat} (h : tn a s k i = tn a s l i) : rch a s k i = rch a s l i := by
  unfold tn at h
  revert h
  cases rch a s k i <;> cases rch a s l i <;> simp
theorem cn_eq {k : Nat} (h : cn a s (k + 1) ≤ cn a s k) : ∀ i, i < 12 → rch a s (k + 1) i = rch a s k i := by
  intro i hi
  apply tn_eq
  unfold cn at h
  have m := fun i => tn_mono (a := a) (s := s) k i
  have m0 := m 0
  have m1 := m 1
  have m2 := m 2
  have m3 := m 3
  have m4 := m 4
  have m5 := m 5
  have m6 := m 6
  have m7 := m 7
  have m8 := m 8
  have m9 := m 9
  have m10 := m 10
  have m11 := m 11
  rcases (show i = 0 ∨ i = 1 ∨ i = 2 ∨ i = 3 ∨ i = 4 ∨ i = 5 ∨ i = 6 ∨ i = 7 ∨ i = 8 ∨ i = 9 ∨ i = 10 ∨ i = 11 by omega) with rfl | rfl | rfl | rfl | rfl | rfl | rfl | rfl | rfl | rfl | rfl | rfl <;> omega
theorem rch_all {k : Nat} (h : 12 ≤ cn a s k) : ∀ i, i < 12 → rch a s k i = true := by
  intro i hi
  have : tn a s k i = 1 := by
    unfold cn at h
    have m := fun i => tn_le (a := a) (s := s) k i
    have m0 := m 0
    have m1 := m 1
    have m2 := m 2
    have m3 := m 3
    have m4 := m 4
    have m5 := m 5
    have m6 := m 6
    have m7 := m 7
    have m8 := m 8
    have m9 := m 9
    have m10 := m 10
    have m11 := m 11
    rcases (show i = 0 ∨ i = 1 ∨ i = 2 ∨ i = 3 ∨ i = 4 ∨ i = 5 ∨ i = 6 ∨ i = 7 ∨ i = 8 ∨ i = 9 ∨ i = 10 ∨ i = 11 by omega) with rfl | rfl | rfl | rfl | rfl | rfl | rfl | rfl | rfl | rfl | rfl | rfl <;> omega
  unfold tn at this
  revert this
  cases rch a s k i <;> simp
theorem rch_stab {k : Nat} (h : ∀ i, i < 12 → rch a s (k + 1) i = rch a s k i) : ∀ i, i < 12 → rch a s (k + 2) i = rch a s (k + 1) i := by
  intro i hi
  rw [rch, show rch a s (k + 1) i = (!s.testBit i && (rch a s k i || (List.range 12).any (fun j => adj j i && rch a s k j))) from rfl]
  rw [← show rch a s (k + 1) i = (!s.testBit i && (rch a s k i || (List.range 12).any (fun j => adj j i && rch a s k j))) from rfl, h i hi, any_cong (q := fun j => adj j i && rch a s k j) (fun j hj => by rw [h j (List.mem_range.mp hj)])]
  exact h i hi
theorem rch_grow : ∀ k, (∀ i, i < 12 → rch a s (k + 1) i = rch a s k i) ∨ k + 1 ≤ cn a s k
  | 0 => by
    by_cases h : 1 ≤ cn a s 0
    · exact Or.inr h
    · refine Or.inl (fun i hi => ?_)
      have z : ∀ j, j < 12 → rch a s 0 j = false := by
        intro j hj
        have : tn a s 0 j = 0 := by
          unfold cn at h
          rcases (show j = 0 ∨ j = 1 ∨ j = 2 ∨ j = 3 ∨ j = 4 ∨ j = 5 ∨ j = 6 ∨ j = 7 ∨ j = 8 ∨ j = 9 ∨ j = 10 ∨ j = 11 by omega) with rfl | rfl | rfl | rfl | rfl | rfl | rfl | rfl | rfl | rfl | rfl | rfl <;> omega
        unfold tn at this
        revert this
        cases rch a s 0 j <;> simp
      rw [z i hi]
      by_cases q : rch a s (0 + 1) i = true
      · rcases rch_step q with q | ⟨-, j, hj, -, q⟩
        · rw [z i hi] at q; exact absurd q (by decide)
        · rw [z j hj] at q; exact absurd q (by decide)
      · simpa using q
  | k + 1 => by
    rcases rch_grow k with h | h
    · exact Or.inl (rch_stab h)
    · by_cases q : cn a s (k + 1) ≤ cn a s k
      · exact Or.inl (rch_stab (cn_eq q))
      · exact Or.inr (by omega)
theorem rch_12 {i : Nat} (hi : i < 12) (h : rch a s 12 i = true) : rch a s 11 i = true := by
  rcases rch_grow (a := a) (s := s) 11 with q | q
  · rw [← q i hi]; exact h
  · exact rch_all q i hi
/-! the class's answer -/
def frs (a s b : Nat) : Nat → Nat → Int32
  | 0, _ => -9
  | r + 1, k => if rch a s k b = true then nI k else frs a s b r (k + 1)
theorem DD_keep {k i : Nat} (h : rch a s k i = true) : ∀ r, rch a s (k + r) i = true ∧ DD a s (k + r) i = DD a s k i
  | 0 => ⟨h, rfl⟩
  | r + 1 => by
    obtain ⟨h1, h2⟩ := DD_keep h r
    refine ⟨rch_mono h1, ?_⟩
    show DD a s (k + r + 1) i = _
    rw [DD, if_pos h1, h2]
theorem frs_DD : ∀ r k, k + r < 100 → (k = 0 ∨ ¬ rch a s (k - 1) b = true) → frs a s b (r + 1) k = DD a s (k + r) b
  | 0, k, hk, h => by
    rw [frs, frs, Nat.add_zero]
    by_cases q : rch a s k b = true
    · rw [if_pos q]
      symm
      rw [DD_new (by omega)]
      cases k with
      | zero => exact q
      | succ k =>
        rw [nw, q]
        rcases h with h | h
        · omega
        · have h : rch a s k b = false := by simpa using h
          rw [h]; rfl
    · rw [if_neg q, DD_no q]
  | r + 1, k, hk, h => by
    rw [frs]
    by_cases q : rch a s k b = true
    · rw [if_pos q, (DD_keep q (r + 1)).2]
      symm
      rw [DD_new (by omega)]
      cases k with
      | zero => exact q
      | succ k =>
        rw [nw, q]
        rcases h with h | h
        · omega
        · have h : rch a s k b = false := by simpa using h
          rw [h]; rfl
    · rw [if_neg q, frs_DD r (k + 1) (by omega) (Or.inr q), show k + 1 + r = k + (r + 1) by omega]
theorem DD_12 (hb : b < 12) : DD a s 12 b = frs a s b 12 0 := by
  rw [frs_DD 11 0 (by decide) (Or.inl rfl)]
  show DD a s (11 + 1) b = _
  rw [DD]
  by_cases q : rch a s 11 b = true
  · rw [if_pos q, Nat.zero_add]
  · rw [if_neg q, if_neg (fun h => q (rch_12 hb h)), Nat.zero_add, DD_no q]
theorem c_steps (ha : a < 12) (hb : b < 12) : fX3_steps (nI a) (nI b) (nI s) = some (frs a s b 12 0) := by
  unfold fX3_steps fX3_steps_E
  simp only [nm]
  have lp : ∀ r k N, k + r = 12 → r < N → fX3_steps_11 (nI b) (nI s) N (nI (msk a s k)) (nI k) = some (frs a s b r k) := by
    intro r
    induction r with
    | zero =>
      intro k N hk hN
      obtain ⟨N, rfl⟩ : ∃ t, N = t + 1 := ⟨N - 1, by omega⟩
      have : k = 12 := by omega
      subst this
      rw [fX3_steps_11, if_pos (by decide)]; rfl
    | succ r ih =>
      intro k N hk hN
      obtain ⟨N, rfl⟩ : ∃ t, N = t + 1 := ⟨N - 1, by omega⟩
      rw [fX3_steps_11, if_neg (show ¬ (12 : Int32) ≤ nI k from nI_ge (show k < 12 by omega) (by decide)), sh1 b (by omega), bo_v (c_wb (msk_lt ha k)), frs, ← msk_bit ha k b hb, nI_1]
      simp only [nm]
      rw [nand_eq]
      by_cases q : (msk a s k).testBit b = true
      · rw [if_neg (fun g => by rw [(fa_bit (by omega)).mp g] at q; exact absurd q (by decide)), if_pos q]
      · rw [if_pos ((fa_bit (by omega)).mpr (by simpa using q)), if_neg q]
        exact ih (k + 1) N (by omega) (by omega)
  rw [sh1 a (by omega), nand_eq]
  exact lp 12 0 FU (by decide) (FU_lt (by decide))
end PH

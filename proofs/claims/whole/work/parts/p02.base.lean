/-! PURE: numbers, memories -/
theorem cl_eq (x : Int32) : x.toNatClampNeg = x.toInt.toNat := rfl
theorem inb_iff {x : Int32} {n : Nat} : inb x n = true ↔ 0 ≤ x.toInt ∧ x.toInt < n := by
  unfold inb
  rw [Bool.and_eq_true, decide_eq_true_eq, decide_eq_true_eq, cl_eq, Int32.le_iff_toInt_le]
  have h0 : (0 : Int32).toInt = 0 := rfl
  rw [h0]
  omega
theorem inb_no {x : Int32} {n : Nat} (h : ¬ inb x n = true) : x.toInt < 0 ∨ (n : Int) ≤ x.toInt := by
  rw [inb_iff] at h
  omega
theorem inb_nI {k n : Nat} (h : k < n) (hn : n < 2 ^ 31) : inb (nI k) n = true := by
  rw [inb_iff, nI_toInt (by omega)]
  omega
theorem inb_nI' {k n : Nat} (h : k < n) (hk : k < 2 ^ 31) : inb (nI k) n = true := by
  rw [inb_iff, nI_toInt hk]
  omega
theorem nI_of_toInt {x : Int32} {k : Nat} (h : x.toInt = k) (hk : k < 2 ^ 31) : x = nI k := by
  rw [← Int32.toInt_inj, h, nI_toInt hk]
theorem inb_ex {x : Int32} {n : Nat} (h : inb x n = true) : ∃ k, k < n ∧ k < 2 ^ 31 ∧ x = nI k := by
  rw [inb_iff] at h
  have h2 := fb_rng x
  refine ⟨x.toInt.toNat, by omega, by omega, nI_of_toInt (by omega) (by omega)⟩
theorem lg_lt {x y : Int64} : lg_cmp x y < 0 ↔ x < y := by
  unfold lg_cmp
  have a1 := fa_lt64 x y
  have a2 := fa_lt64 y x
  have a3 := fa_eq64 x y
  by_cases h1 : x > y
  · rw [if_pos h1]
    have : y.toInt < x.toInt := a2.mp h1
    have h2 : ¬ x < y := by rw [a1]; omega
    exact ⟨fun h => absurd h (by decide), fun h => absurd h h2⟩
  · rw [if_neg h1]
    by_cases h2 : x = y
    · rw [if_pos h2]
      subst h2
      have h2 : ¬ x < x := by rw [a1]; omega
      exact ⟨fun h => absurd h (by decide), fun h => absurd h h2⟩
    · rw [if_neg h2]
      have h3 : x < y := by
        have h1 : ¬ y < x := h1
        rw [a2] at h1; rw [a3] at h2; rw [a1]; omega
      exact ⟨fun _ => h3, fun _ => by decide⟩
theorem lg_gt {x y : Int64} : 0 < lg_cmp x y ↔ y < x := by
  unfold lg_cmp
  by_cases h1 : x > y
  · rw [if_pos h1]
    exact ⟨fun _ => h1, fun _ => by decide⟩
  · rw [if_neg h1]
    by_cases h2 : x = y
    · rw [if_pos h2]
      exact ⟨fun h => absurd h (by decide), fun h => absurd h h1⟩
    · rw [if_neg h2]
      exact ⟨fun h => absurd h (by decide), fun h => absurd h h1⟩
theorem lg_eq {x y : Int64} : lg_cmp x y = 0 ↔ x = y := by
  unfold lg_cmp
  by_cases h1 : x > y
  · rw [if_pos h1]
    have h1 : y < x := h1
    rw [fa_lt64] at h1
    exact ⟨fun h => absurd h (by decide), fun h => by subst h; omega⟩
  · rw [if_neg h1]
    by_cases h2 : x = y
    · rw [if_pos h2]
      exact ⟨fun _ => h2, fun _ => rfl⟩
    · rw [if_neg h2]
      exact ⟨fun h => absurd h (by decide), fun h => absurd h h2⟩
theorem lg_ge {x y : Int64} : 0 ≤ lg_cmp x y ↔ y ≤ x := by
  have h := @lg_lt x y
  rw [← Int32.not_lt, h, ← Int64.not_lt]
theorem gd_t {γ : Type} {c : Prop} [Decidable c] {x : Option γ} (h : c) : gd c x = x := if_pos h
theorem bo_v {α γ : Type} {x : Option α} {v : α} {k : α → Option γ} (h : x = some v) : bo x k = k v := by rw [h]; rfl
theorem bd_v {α β γ : Type} {x : Option (α × β)} {a : α} {b : β} {k : α → β → Option γ} (h : x = some (a, b)) : bd x k = k a b := by rw [h]; rfl
theorem sA_eq (w : Mm) (q k : Nat) (x : Int32) : (sA w q k x).1 q = upd (w.1 q) k x := if_pos rfl
theorem sA_ne {w : Mm} {p q k : Nat} {x : Int32} (h : p ≠ q) : (sA w q k x).1 p = w.1 p := if_neg h
theorem sA_2 (w : Mm) (q k : Nat) (x : Int32) : (sA w q k x).2 = w.2 := rfl
theorem sF_eq (w : Mm) (q : Nat) (f : Nat → Int32) : (sF w q f).1 q = f := if_pos rfl
theorem sF_ne {w : Mm} {p q : Nat} {f : Nat → Int32} (h : p ≠ q) : (sF w q f).1 p = w.1 p := if_neg h
theorem sF_2 (w : Mm) (q : Nat) (f : Nat → Int32) : (sF w q f).2 = w.2 := rfl
theorem sL_1 (w : Mm) (q k : Nat) (x : Int64) : (sL w q k x).1 = w.1 := rfl
theorem sL_22 (w : Mm) (q k : Nat) (x : Int64) : (sL w q k x).2.2 = w.2.2 := rfl
theorem sL_eq (w : Mm) (q k : Nat) (x : Int64) : (sL w q k x).2.1 q = vp_updL (w.2.1 q) k x := if_pos rfl
theorem sL_ne {w : Mm} {p q k : Nat} {x : Int64} (h : p ≠ q) : (sL w q k x).2.1 p = w.2.1 p := if_neg h
theorem sA_sF (w : Mm) (q k : Nat) (x : Int32) : sA w q k x = sF w q (upd (w.1 q) k x) := by
  unfold sA sF
  congr 1
  funext p
  by_cases h : p = q
  · subst h; simp
  · simp [h]
theorem sF_sF (w : Mm) (q : Nat) (f g : Nat → Int32) : sF (sF w q f) q g = sF w q g := by
  unfold sF
  congr 1
  funext p
  by_cases h : p = q
  · simp [h]
  · simp [h]
theorem sF_sA (w : Mm) (q k : Nat) (x : Int32) (g : Nat → Int32) : sF (sA w q k x) q g = sF w q g := by
  rw [sA_sF, sF_sF]
theorem sF_self (w : Mm) (q : Nat) : sF w q (w.1 q) = w := by
  unfold sF
  apply Prod.ext
  · funext p
    by_cases h : p = q
    · subst h; simp
    · simp [h]
  · rfl
theorem upd_eq (f : Nat → Int32) (k : Nat) (x : Int32) : upd f k x k = x := if_pos rfl
theorem upd_ne {f : Nat → Int32} {k j : Nat} {x : Int32} (h : j ≠ k) : upd f k x j = f j := if_neg h
/-! the reference's small questions -/
theorem in_eq (y0 y2 y4 : Int64) : fX8_in y0 y2 y4 = some (if y2 ≤ y0 ∧ y0 ≤ y4 then 1 else 0) := by
  unfold fX8_in fX8_in_E
  by_cases h1 : y0 < y2
  · rw [if_pos (lg_lt.mpr h1), if_neg (fun h => absurd h1 (Int64.not_lt.mpr h.1))]
  · rw [if_neg (fun h => h1 (lg_lt.mp h))]
    by_cases h2 : y4 < y0
    · rw [if_pos (lg_gt.mpr h2), if_neg (fun h => absurd h2 (Int64.not_lt.mpr h.2))]
    · rw [if_neg (fun h => h2 (lg_gt.mp h)), if_pos ⟨Int64.not_lt.mp h1, Int64.not_lt.mp h2⟩]
theorem in_w (x a b : Int32) : fX8_in x.toInt64 a.toInt64 b.toInt64 = some (if a ≤ x ∧ x ≤ b then 1 else 0) := by
  rw [in_eq]
  congr 1
  by_cases h : a ≤ x ∧ x ≤ b
  · rw [if_pos h, if_pos ⟨(fa_wide_le a x).mpr h.1, (fa_wide_le x b).mpr h.2⟩]
  · rw [if_neg h, if_neg (fun q => h ⟨(fa_wide_le a x).mp q.1, (fa_wide_le x b).mp q.2⟩)]
/-- 0 ≤ x ≤ b, where b is n - 1 -/
theorem in_n (x : Int32) (L : Int64) (b : Int32) (n : Nat) (hL : L = b.toInt64) (hb : b.toInt = (n : Int) - 1) : fX8_in x.toInt64 0 L = some (if inb x n = true then 1 else 0) := by
  subst hL
  have h := in_w x 0 b
  have e : (0 : Int32).toInt64 = 0 := rfl
  rw [e] at h
  rw [h]
  congr 1
  have h0 : (0 : Int32).toInt = 0 := rfl
  by_cases q : inb x n = true
  · rw [if_pos q, if_pos]
    rw [inb_iff] at q
    rw [Int32.le_iff_toInt_le, Int32.le_iff_toInt_le, h0, hb]
    omega
  · rw [if_neg q, if_neg]
    have q := inb_no q
    rw [Int32.le_iff_toInt_le, Int32.le_iff_toInt_le, h0, hb]
    omega
theorem gd01 {c : Prop} [Decidable c] : gd ((if c then (1 : Int32) else 0) = 0 ∨ (if c then (1 : Int32) else 0) = 1) (some (if c then (1 : Int32) else 0)) = some (if c then (1 : Int32) else 0) := by
  refine gd_t ?_
  by_cases h : c
  · rw [if_pos h]; exact Or.inr rfl
  · rw [if_neg h]; exact Or.inl rfl
theorem isRow_eq (x : Int32) : fX8_isRow x = some (if inb x 6 = true then 1 else 0) := by
  unfold fX8_isRow fX8_isRow_E
  rw [bo_v (in_n x 5 5 6 rfl rfl)]
  exact gd01
theorem isText_eq (x : Int32) : fX8_isText x = some (if inb x 4 = true then 1 else 0) := by
  unfold fX8_isText fX8_isText_E
  rw [bo_v (in_n x 3 3 4 rfl rfl)]
  exact gd01
theorem isRoom_eq (x : Int32) : fX8_isRoom x = some (if inb x 12 = true then 1 else 0) := by
  unfold fX8_isRoom fX8_isRoom_E
  rw [bo_v (in_n x 11 11 12 rfl rfl)]
  exact gd01
theorem ite10 {c : Prop} [Decidable c] : ((if c then (1 : Int32) else 0) = 0) ↔ ¬ c := by
  by_cases h : c
  · rw [if_pos h]; exact ⟨fun q => absurd q (by decide), fun q => absurd h q⟩
  · rw [if_neg h]; exact ⟨fun _ => h, fun _ => rfl⟩
theorem if_10 {α : Type} {c : Prop} [Decidable c] {a b : α} : (if (if c then (1 : Int32) else 0) = 0 then a else b) = if c then b else a := by
  by_cases h : c
  · rw [if_pos h, if_pos h, if_neg (by decide)]
  · rw [if_neg h, if_neg h, if_pos rfl]
/-- x < 0 or n ≤ x, as the class asks -/
theorem num_eq (x b : Int32) (n : Nat) (hb : b.toInt = (n : Int)) : (if x < 0 then some (0 : Int32) else (if b ≤ x then some 0 else some 1)) = some (if inb x n = true then 1 else 0) := by
  have h0 : (0 : Int32).toInt = 0 := rfl
  by_cases q : inb x n = true
  · rw [if_pos q]
    rw [inb_iff] at q
    rw [if_neg (by rw [Int32.lt_iff_toInt_lt, h0]; omega), if_neg (by rw [Int32.le_iff_toInt_le, hb]; omega)]
  · rw [if_neg q]
    have q := inb_no q
    by_cases h : x < 0
    · rw [if_pos h]
    · rw [if_neg h]
      rw [Int32.lt_iff_toInt_lt, h0] at h
      rw [if_pos (by rw [Int32.le_iff_toInt_le, hb]; omega)]

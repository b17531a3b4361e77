/-! PURE: by turns, the reference -/
def eV (k u : Nat) : Int32 := if k % 2 = 0 then nI u else nI (2 - u)
def eN (k : Nat) : Option Nat → Int32
  | none => if k % 2 = 0 then -1 else 3
  | some u => eV k u
def oM : Option Nat → Nat → Nat
  | none, u => u
  | some b, u => max b u
def oB : Option Nat → Nat → Bool
  | none, _ => true
  | some b, u => decide (b < u)
def cst : Nat → Nat
  | 0 => 0
  | r + 1 => 6 * (cst r + 2)
def Lv (k S T U i : Nat) (v : Int32) (w : Mm) : Prop := w.1 14 k = nI i ∧ w.1 15 k = nI S ∧ w.1 16 k = nI T ∧ w.1 17 k = nI U ∧ w.1 18 k = v
def FrP (k : Nat) (w w' : Mm) : Prop := (∀ q j, 14 ≤ q → q ≤ 18 → j < k → w'.1 q j = w.1 q j) ∧ (∀ q, q ≠ 0 → q < 14 ∨ 18 < q → w'.1 q = w.1 q) ∧ (∀ f, f ≠ 31 → w'.1 0 f = w.1 0 f) ∧ w'.2 = w.2 ∧ (0 < k → w'.1 0 31 = w.1 0 31)
theorem FrP.rfl' (k : Nat) (w : Mm) : FrP k w w := ⟨fun _ _ _ _ _ => rfl, fun _ _ _ => rfl, fun _ _ => rfl, rfl, fun _ => rfl⟩
theorem FrP.trans {k : Nat} {a b c : Mm} (h : FrP k a b) (g : FrP k b c) : FrP k a c := ⟨fun q j h1 h2 h3 => (g.1 q j h1 h2 h3).trans (h.1 q j h1 h2 h3), fun q h1 h2 => (g.2.1 q h1 h2).trans (h.2.1 q h1 h2), fun f hf => (g.2.2.1 f hf).trans (h.2.2.1 f hf), g.2.2.2.1.trans h.2.2.2.1, fun h0 => (g.2.2.2.2 h0).trans (h.2.2.2.2 h0)⟩
theorem FrP.down {k : Nat} {a b : Mm} (h : FrP (k + 1) a b) : FrP k a b := ⟨fun q j h1 h2 h3 => h.1 q j h1 h2 (by omega), h.2.1, h.2.2.1, h.2.2.2.1, fun _ => h.2.2.2.2 (by omega)⟩
theorem FrP.sc {k : Nat} {m m' : Mm} (h : FrP k m m') : ScM m m' := ⟨fun p h1 h2 => h.2.1 p (by omega) (by omega), fun t _ => by rw [h.2.1 1 (by decide) (by omega)], fun f hf => h.2.2.1 f (by omega), by rw [h.2.2.2.1]⟩
theorem even_k : ∀ k, k < 7 → ((nI k - nI k / 2 * 2 = 0) ↔ k % 2 = 0) := by decide +kernel
theorem bt_e : ∀ b, b < 3 → ∀ u, u < 3 → (nI u ≤ nI b ↔ ¬ b < u) := by decide +kernel
theorem bt_o : ∀ b, b < 3 → ∀ u, u < 3 → (nI (2 - b) ≤ nI (2 - u) ↔ ¬ b < u) := by decide +kernel
theorem better_n : ∀ k, k < 7 → ∀ u, u < 3 → ((k % 2 = 0 → ¬ eV k u ≤ -1) ∧ (¬ k % 2 = 0 → ¬ (3 : Int32) ≤ eV k u)) := by decide +kernel
/-- what is taken -/
theorem m_take {k : Nat} (hk : k < 7) {o : Option Nat} (ho : ∀ b, o = some b → b ≤ 2) {u : Nat} (hu : u ≤ 2) (z : Int32) {w : Mm} (hw : w.1 18 k = eN k o) : ∃ w', fX8_take (nI k) z (eV k u) w = some w' ∧ w'.1 18 k = eV k (oM o u) ∧ (∀ q, q ≠ 0 → q ≠ 18 → w'.1 q = w.1 q) ∧ (∀ j, j ≠ k → w'.1 18 j = w.1 18 j) ∧ (∀ f, f ≠ 31 → w'.1 0 f = w.1 0 f) ∧ w'.2 = w.2 ∧ w'.1 0 31 = (if k = 0 ∧ oB o u = true then z else w.1 0 31) := by
  have hbt : fX8_isBetter (nI k) (eV k u) w = some (if oB o u = true then 1 else 0) := by
    unfold fX8_isBetter fX8_isBetter_E
    rw [gd_t (inb_nI hk (by decide)), gd_t (inb_nI hk (by decide)), nI_clamp (by omega), hw]
    by_cases e : k % 2 = 0
    · rw [if_pos ((even_k k hk).mpr e)]
      cases o with
      | none =>
        show (if eV k u ≤ (if k % 2 = 0 then -1 else 3) then some (0 : Int32) else some 1) = _
        rw [if_pos e, if_neg ((better_n k hk u (by omega)).1 e)]; rfl
      | some b =>
        have hb := ho b rfl
        show (if eV k u ≤ eV k b then some (0 : Int32) else some 1) = some (if decide (b < u) = true then 1 else 0)
        have t : eV k u ≤ eV k b ↔ ¬ b < u := by unfold eV; rw [if_pos e, if_pos e]; exact bt_e b (by omega) u (by omega)
        by_cases g : b < u
        · rw [if_neg (fun q => t.mp q g), decide_eq_true g]; rfl
        · rw [if_pos (t.mpr g), decide_eq_false g]; rfl
    · rw [if_neg (fun q => e ((even_k k hk).mp q))]
      cases o with
      | none =>
        show (if (if k % 2 = 0 then -1 else 3) ≤ eV k u then some (0 : Int32) else some 1) = _
        rw [if_neg e, if_neg ((better_n k hk u (by omega)).2 e)]; rfl
      | some b =>
        have hb := ho b rfl
        show (if eV k b ≤ eV k u then some (0 : Int32) else some 1) = some (if decide (b < u) = true then 1 else 0)
        have t : eV k b ≤ eV k u ↔ ¬ b < u := by unfold eV; rw [if_neg e, if_neg e]; exact bt_o b (by omega) u (by omega)
        by_cases g : b < u
        · rw [if_neg (fun q => t.mp q g), decide_eq_true g]; rfl
        · rw [if_pos (t.mpr g), decide_eq_false g]; rfl
  unfold fX8_take fX8_take_E fX8_take_29
  rw [bo_v hbt, if_10]
  by_cases g : oB o u = true
  · rw [if_pos g, gd_t (inb_nI hk (by decide)), nI_clamp (by omega)]
    simp only [nm]
    have em : oM o u = u := by
      cases o with
      | none => rfl
      | some b =>
        have : b < u := by simpa [oB] using g
        show max b u = u
        omega
    rw [em]
    by_cases e : k = 0
    · subst e
      rw [if_pos (show nI 0 = 0 from rfl), if_pos ⟨rfl, g⟩]
      refine ⟨_, rfl, by rw [sA_ne (by decide), sA_eq, upd_eq], fun q h1 h2 => by rw [sA_ne h1, sA_ne h2], fun j hj => by rw [sA_ne (by decide), sA_eq, upd_ne hj], fun f hf => by rw [sA_eq, upd_ne hf, sA_ne (by decide)], rfl, by rw [sA_eq, upd_eq]⟩
    · rw [if_neg (nI_ne0 (by omega) (by omega)), if_neg (fun q => e q.1)]
      refine ⟨_, rfl, by rw [sA_ne (by decide), sA_eq, upd_eq], fun q h1 h2 => by rw [sA_ne h1, sA_ne h2], fun j hj => by rw [sA_ne (by decide), sA_eq, upd_ne hj], fun f hf => by rw [sA_eq, upd_ne hf, sA_ne (by decide)], rfl, by rw [sA_eq, upd_eq, sA_ne (by decide)]⟩
  · rw [if_neg g, if_neg (fun q => g q.2)]
    have em : eN k o = eV k (oM o u) := by
      cases o with
      | none => exact absurd rfl g
      | some b =>
        have : ¬ b < u := by simpa [oB] using g
        show eV k b = eV k (max b u)
        rw [show max b u = b by omega]
    exact ⟨w, rfl, by rw [hw, em], fun _ _ _ => rfl, fun _ _ => rfl, fun _ _ => rfl, rfl, rfl⟩
def e0 (Q k : Nat) : Int32 := if k = Q then 1 else if k % 2 = 0 then -1 else 3
theorem m_begin {k Q : Nat} (hk : k < 7) (hQ : Q ≤ 6) {S T U : Nat} {w : Mm} (h3 : w.1 0 3 = nI Q) : ∃ w', fX8_beginTurn (nI k) (nI S) (nI T) (nI U) w = some w' ∧ Lv k S T U 0 (e0 Q k) w' ∧ FrP k w w' ∧ w'.1 0 = w.1 0 ∧ (∀ q j, 14 ≤ q → q ≤ 18 → j ≠ k → w'.1 q j = w.1 q j) := by
  unfold fX8_beginTurn fX8_beginTurn_E fX8_beginTurn_57
  rw [gd_t (inb_nI hk (by decide)), nI_clamp (by omega)]
  simp only [nm]
  rw [gd_t (inb_nI hk (by decide)), gd_t (inb_nI hk (by decide)), gd_t (inb_nI hk (by decide))]
  generalize hw4 : sA (sA (sA (sA w 14 k 0) 15 k (nI S)) 16 k (nI T)) 17 k (nI U) = w4
  have f0 : w4.1 0 = w.1 0 := by rw [← hw4, sA_ne (by decide), sA_ne (by decide), sA_ne (by decide), sA_ne (by decide)]
  have key : ∀ v : Int32, v = e0 Q k → ∃ w', some (sA w4 18 k v) = some w' ∧ Lv k S T U 0 (e0 Q k) w' ∧ FrP k w w' ∧ w'.1 0 = w.1 0 ∧ (∀ q j, 14 ≤ q → q ≤ 18 → j ≠ k → w'.1 q j = w.1 q j) := by
    intro v hv
    have hj : ∀ q j, 14 ≤ q → q ≤ 18 → j ≠ k → (sA w4 18 k v).1 q j = w.1 q j := by
      intro q j h1 h2 hjk
      rw [← hw4]
      rcases (show q = 14 ∨ q = 15 ∨ q = 16 ∨ q = 17 ∨ q = 18 by omega) with rfl | rfl | rfl | rfl | rfl
      · rw [sA_ne (by decide), sA_ne (by decide), sA_ne (by decide), sA_ne (by decide), sA_eq, upd_ne hjk]
      · rw [sA_ne (by decide), sA_ne (by decide), sA_ne (by decide), sA_eq, upd_ne hjk, sA_ne (by decide)]
      · rw [sA_ne (by decide), sA_ne (by decide), sA_eq, upd_ne hjk, sA_ne (by decide), sA_ne (by decide)]
      · rw [sA_ne (by decide), sA_eq, upd_ne hjk, sA_ne (by decide), sA_ne (by decide), sA_ne (by decide)]
      · rw [sA_eq, upd_ne hjk, sA_ne (by decide), sA_ne (by decide), sA_ne (by decide), sA_ne (by decide)]
    refine ⟨_, rfl, ⟨?_, ?_, ?_, ?_, ?_⟩, ⟨fun q j h1 h2 h3 => hj q j h1 h2 (by omega), fun q h1 h2 => ?_, fun f _ => by rw [sA_ne (by decide), f0], ?_, fun _ => by rw [sA_ne (by decide), f0]⟩, by rw [sA_ne (by decide), f0], hj⟩
    · rw [sA_ne (by decide), ← hw4, sA_ne (by decide), sA_ne (by decide), sA_ne (by decide), sA_eq, upd_eq]; rfl
    · rw [sA_ne (by decide), ← hw4, sA_ne (by decide), sA_ne (by decide), sA_eq, upd_eq]
    · rw [sA_ne (by decide), ← hw4, sA_ne (by decide), sA_eq, upd_eq]
    · rw [sA_ne (by decide), ← hw4, sA_eq, upd_eq]
    · rw [sA_eq, upd_eq, hv]
    · rw [sA_ne (by omega), ← hw4, sA_ne (by omega), sA_ne (by omega), sA_ne (by omega), sA_ne (by omega)]
    · rw [← hw4]; rfl
  rw [f0, h3]
  by_cases e : k = Q
  · subst e
    rw [if_pos rfl]
    exact key _ (by unfold e0; rw [if_pos rfl])
  · rw [if_neg (by rw [nI_eq (by omega) (by omega)]; exact e)]
    by_cases e2 : k % 2 = 0
    · rw [if_pos ((even_k k hk).mpr e2)]
      exact key _ (by unfold e0; rw [if_neg e, if_pos e2])
    · rw [if_neg (fun q => e2 ((even_k k hk).mp q))]
      exact key _ (by unfold e0; rw [if_neg e, if_neg e2])

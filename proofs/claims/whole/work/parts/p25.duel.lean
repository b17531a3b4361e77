/-! PURE: by turns: the reference's search, and both -/
def Cx0 (F : Fam) (N0 : Nat → Nat) (w : Mm) : Prop := FamM F w ∧ ∀ i, i < 6 → w.1 1 (5 + i) = nI (N0 i) ∧ N0 i ≤ 60
theorem FrP.fam {k : Nat} {F : Fam} {m m' : Mm} (h : FamM F m) (f : FrP k m m') : FamM F m' := h.sc f.sc
theorem Cx0.fr {k : Nat} {F : Fam} {N0 : Nat → Nat} {m m' : Mm} (h : Cx0 F N0 m) (f : FrP k m m') : Cx0 F N0 m' := ⟨h.1.sc f.sc, fun i hi => by rw [f.2.1 1 (by decide) (by omega)]; exact h.2 i hi⟩
def pF (u : Nat → Nat) (U : Nat) : Nat → Nat → Option Nat → Int32 → Option Nat × Int32
  | 0, _, o, z => (o, z)
  | c + 1, i, o, z => if U.testBit i = true then pF u U c (i + 1) o z else pF u U c (i + 1) (some (oM o (u i))) (if oB o (u i) = true then nI i else z)
theorem pF_some {u : Nat → Nat} {U : Nat} : ∀ c i b z, (pF u U c i (some b) z).1 = some (uF u U c i b)
  | 0, _, _, _ => rfl
  | c + 1, i, b, z => by
    rw [pF, uF]
    by_cases h : U.testBit i = true
    · rw [if_pos h, if_pos h]; exact pF_some c (i + 1) b z
    · rw [if_neg h, if_neg h]; exact pF_some c (i + 1) _ _
theorem pF_none {u : Nat → Nat} {U : Nat} : ∀ c i z, (∃ j, i ≤ j ∧ j < i + c ∧ U.testBit j = false) → (pF u U c i none z).1 = some (uF u U c i 0)
  | 0, i, z, h => by obtain ⟨j, h1, h2, -⟩ := h; omega
  | c + 1, i, z, h => by
    rw [pF, uF]
    by_cases g : U.testBit i = true
    · rw [if_pos g, if_pos g]
      obtain ⟨j, h1, h2, h3⟩ := h
      refine pF_none c (i + 1) z ⟨j, ?_, by omega, h3⟩
      by_cases e : j = i
      · subst e; rw [g] at h3; exact absurd h3 (by decide)
      · omega
    · rw [if_neg g, if_neg g, pF_some, show oM none (u i) = max 0 (u i) from (Nat.zero_max _).symm]
theorem pF_open {u : Nat → Nat} : ∀ c i o b, (pF u 0 c i (some b) (nI o)).2 = nI (oF u c i o b)
  | 0, _, _, _ => rfl
  | c + 1, i, o, b => by
    rw [pF, oF, if_neg (by rw [Nat.zero_testBit]; decide)]
    by_cases g : b < u i
    · rw [if_pos g, if_pos (show oB (some b) (u i) = true from decide_eq_true g), show oM (some b) (u i) = u i from Nat.max_eq_right (by omega)]
      exact pF_open c (i + 1) i (u i)
    · rw [if_neg g, if_neg (show ¬ oB (some b) (u i) = true from by show ¬ decide (b < u i) = true; rw [decide_eq_false g]; decide), show oM (some b) (u i) = b from Nat.max_eq_left (by omega)]
      exact pF_open c (i + 1) o b
theorem pc_or : ∀ U, U < 64 → ∀ i, i < 6 → U.testBit i = false → pc6 (U ||| 2 ^ i) = pc6 U + 1 := by decide +kernel
theorem pc_ex : ∀ U, U < 64 → ∀ Q, Q < 7 → pc6 U < Q → ∃ i, i < Q ∧ U.testBit i = false := by decide +kernel
theorem eV_flip (k u : Nat) (hu : u ≤ 2) : eV (k + 1) u = eV k (2 - u) := by
  unfold eV
  by_cases h : k % 2 = 0
  · rw [if_neg (by omega), if_pos h]
  · rw [if_pos (by omega), if_neg h, show 2 - (2 - u) = u by omega]
theorem cst_pos (r : Nat) : cst r + 2 ≤ cst (r + 1) := by rw [cst]; omega
section PV
variable {F : Fam} {N0 : Nat → Nat} {x y : Nat}
theorem m_pop {k Q N : Nat} {w : Mm} (x1 x2 : Int32) (hk : k < 6) (hQ : Q ≤ 6) (h3 : w.1 0 3 = nI Q) (h : w.1 14 (k + 1) = nI Q ∨ k + 1 = Q) : fX8_play_20 x1 x2 (N + 1) (nI (k + 1)) w = bo (fX8_take (nI k) (w.1 14 k - 1) (w.1 18 (k + 1)) w) (fun w => fX8_play_20 x1 x2 N (nI k) w) := by
  have e : fX8_play_49 (fX8_play_20 x1 x2 N) x1 x2 (nI (k + 1)) w = bo (fX8_take (nI k) (w.1 14 k - 1) (w.1 18 (k + 1)) w) (fun w => fX8_play_20 x1 x2 N (nI k) w) := by
    unfold fX8_play_49 fX8_play_227
    rw [nI_m1 (by omega), Nat.add_sub_cancel, if_neg (nI_pos (by omega)), nI_1, gd_t (inb_nI (show k < 7 by omega) (by decide)), gd_t (inb_nI (show k + 1 < 7 by omega) (by decide)), nI_clamp (show k < 2 ^ 31 by omega), nI_clamp (show k + 1 < 2 ^ 31 by omega)]
  rw [fX8_play_20, if_neg (nI_pos (by omega)), gd_t (inb_nI (show k + 1 < 7 by omega) (by decide)), nI_clamp (show k + 1 < 2 ^ 31 by omega)]
  simp only [nm]
  rw [h3]
  rcases h with h | h
  · rw [if_pos h, e]
  · by_cases g : w.1 14 (k + 1) = nI Q
    · rw [if_pos g, e]
    · rw [if_neg g, if_pos (by rw [h]), e]
/-- one candidate -/
theorem m_cand (hF : FamOk F) (hx : x < fP F) (hy : y < fP F) {k i S T U N : Nat} {w : Mm} (hC : Cx0 F N0 w) (hk : k < fQ F) (hi : i < fQ F) (hS : S ≤ 12000) (hT : T ≤ 7) (hU : U < 64) {v : Int32} (hL : Lv k S T U i v w) : fX8_play_20 (nI x) (nI y) (N + 1) (nI k) w = (if U.testBit i = true then fX8_play_20 (nI x) (nI y) N (nI k) (sA w 14 k (nI (i + 1))) else if S + nr0 F N0 T i ≤ fB F (pl x y k) then bo (fX8_beginTurn (nI (k + 1)) (nI (S + nr0 F N0 T i)) (nI (T ||| fO F i)) (nI (U ||| 2 ^ i)) (sA w 14 k (nI (i + 1)))) (fun w => fX8_play_20 (nI x) (nI y) N (nI (k + 1)) w) else bo (fX8_take (nI k) (nI i) (eV k 0) (sA w 14 k (nI (i + 1)))) (fun w => fX8_play_20 (nI x) (nI y) N (nI k) w)) := by
  have hq := hF.q
  have hp := hF.p
  obtain ⟨k1, k2, k3⟩ := hF.2.2.2.2.1 i hi
  obtain ⟨m1, m2, m3⟩ := hC.1.2.2.2.2 i hi
  obtain ⟨n1, n2⟩ := hC.2 i (by omega)
  have ho := opn_le T
  obtain ⟨l1, l2, l3, l4, l5⟩ := hL
  have hnr := nr_le (k := fK F i) (t := fT F i) (s := N0 i) (o := opn T)
  have hpl : pl x y k < fP F := pl_lt hx hy
  have hB := hF.2.2.2.1 (pl x y k) hpl
  rw [fX8_play_20, if_neg (nI_pos (by omega)), gd_t (inb_nI (show k < 7 by omega) (by decide)), nI_clamp (show k < 2 ^ 31 by omega), l1]
  simp only [nm]
  rw [hC.1.2.1, if_neg (by rw [nI_eq (by omega) (by omega)]; omega), if_neg (by rw [nI_eq (by omega) (by omega)]; omega), nI_1]
  have e17 : (sA w 14 k (nI (i + 1))).1 17 k = nI U := by rw [sA_ne (by decide)]; exact l4
  have e16 : (sA w 14 k (nI (i + 1))).1 16 k = nI T := by rw [sA_ne (by decide)]; exact l3
  have e15 : (sA w 14 k (nI (i + 1))).1 15 k = nI S := by rw [sA_ne (by decide)]; exact l2
  have e3 : (sA w 14 k (nI (i + 1))).1 3 i = nI (fK F i) := by rw [sA_ne (by decide)]; exact m1
  have e4 : (sA w 14 k (nI (i + 1))).1 4 i = nI (fT F i) := by rw [sA_ne (by decide)]; exact m2
  have e5 : (sA w 14 k (nI (i + 1))).1 5 i = nI (fO F i) := by rw [sA_ne (by decide)]; exact m3
  have e1 : (sA w 14 k (nI (i + 1))).1 1 (5 + i) = nI (N0 i) := by rw [sA_ne (by decide)]; exact n1
  have e2 : (sA w 14 k (nI (i + 1))).1 2 (pl x y k) = nI (fB F (pl x y k)) := by rw [sA_ne (by decide)]; exact hC.1.2.2.2.1 _ hpl
  rw [e17, bo_v (has_m (by omega) (by omega)), if_10, gd_t (inb_nI (show i < 6 by omega) (by decide)), show (5 : Int32) + nI i = nI (5 + i) from nI_add 5 i, gd_t (inb_nI (show 5 + i < 1655 by omega) (by decide)), nI_clamp (show i < 2 ^ 31 by omega), nI_clamp (show 5 + i < 2 ^ 31 by omega), e16, e15, e3, e4, e1, bo_v (op_eq T (by omega)), bo_v (mnr (by omega) (by omega) (by omega) (by omega)), nI_add]
  unfold fX8_play_227
  by_cases h1 : U.testBit i = true
  · rw [if_pos h1, if_pos h1]
  · rw [if_neg h1, if_neg h1]
    have key : fX8_play_165 (fX8_play_20 (nI x) (nI y) N) (nI x) (nI y) (nI k) (nI i) (nI (S + nr (fK F i) (fT F i) (N0 i) (opn T))) (nI (pl x y k)) (nI (S + nr (fK F i) (fT F i) (N0 i) (opn T))) (sA w 14 k (nI (i + 1))) = (if S + nr0 F N0 T i ≤ fB F (pl x y k) then bo (fX8_beginTurn (nI (k + 1)) (nI (S + nr0 F N0 T i)) (nI (T ||| fO F i)) (nI (U ||| 2 ^ i)) (sA w 14 k (nI (i + 1)))) (fun w => fX8_play_20 (nI x) (nI y) N (nI (k + 1)) w) else bo (fX8_take (nI k) (nI i) (eV k 0) (sA w 14 k (nI (i + 1)))) (fun w => fX8_play_20 (nI x) (nI y) N (nI k) w)) := by
      unfold fX8_play_165 fX8_play_184 fX8_play_227
      rw [gd_t (inb_nI (show pl x y k < 4 by omega) (by decide)), gd_t (inb_nI (show k < 7 by omega) (by decide)), gd_t (inb_nI (show i < 6 by omega) (by decide)), nI_clamp (show pl x y k < 2 ^ 31 by omega), nI_clamp (show k < 2 ^ 31 by omega), nI_clamp (show i < 2 ^ 31 by omega), e2, e16, e17, e5, sh1 i (by omega), fa_or, fa_or, nI_1]
      have e0 : S + nr0 F N0 T i = S + nr (fK F i) (fT F i) (N0 i) (opn T) := rfl
      rw [e0]
      by_cases g : S + nr (fK F i) (fT F i) (N0 i) (opn T) ≤ fB F (pl x y k)
      · rw [if_pos (nI_le g (by omega)), if_pos g]
      · rw [if_neg (nI_ge (by omega) (by omega)), if_neg g]
        unfold eV
        by_cases e : k % 2 = 0
        · rw [if_pos ((even_k k (by omega)).mpr e), if_pos e]; rfl
        · rw [if_neg (fun q => e ((even_k k (by omega)).mp q)), if_neg e]; rfl
    rw [← key]
    by_cases e : k % 2 = 0
    · rw [if_pos ((even_k k (by omega)).mpr e), show pl x y k = x from if_pos e]
    · rw [if_neg (fun q => e ((even_k k (by omega)).mp q)), show pl x y k = y from if_neg e]
/-- a whole level -/
theorem m_lvl (hF : FamOk F) (hx : x < fP F) (hy : y < fP F) : ∀ (r k S T U N : Nat) (w : Mm), k + r = fQ F → cst r < N → Cx0 F N0 w → S ≤ 12000 → T ≤ 7 → U < 64 → pc6 U = k → Lv k S T U 0 (e0 (fQ F) k) w → ∃ N' w', N ≤ N' + cst r ∧ fX8_play_20 (nI x) (nI y) N (nI k) w = fX8_play_20 (nI x) (nI y) N' (nI k) w' ∧ (w'.1 14 k = nI (fQ F) ∨ k = fQ F) ∧ w'.1 18 k = eV k (uv F N0 x y r k S T U) ∧ FrP k w w' ∧ (k = 0 → 0 < r → w'.1 0 31 = (pF (uo F N0 x y (r - 1) k S T U) U (fQ F) 0 none (w.1 0 31)).2) := by
  have hq := hF.q
  have hp := hF.p
  intro r
  induction r with
  | zero =>
    intro k S T U N w hk hN hC hS hT hU hpc hL
    refine ⟨N, w, by omega, rfl, Or.inr (by omega), ?_, FrP.rfl' k w, fun _ h => by omega⟩
    rw [hL.2.2.2.2]
    unfold e0 eV
    rw [if_pos (by omega), uv]
    split <;> rfl
  | succ r ih =>
    intro k S T U N w hk hN hC hS hT hU hpc hL
    have hkQ : k < fQ F := by omega
    have lp : ∀ cnt i N o z (w : Mm), i + cnt = fQ F → cnt * (cst r + 2) < N → Cx0 F N0 w → (∀ b, o = some b → b ≤ 2) → Lv k S T U i (eN k o) w → w.1 0 31 = z → ∃ N' w', N ≤ N' + cnt * (cst r + 2) ∧ fX8_play_20 (nI x) (nI y) N (nI k) w = fX8_play_20 (nI x) (nI y) N' (nI k) w' ∧ Lv k S T U (fQ F) (eN k (pF (uo F N0 x y r k S T U) U cnt i o z).1) w' ∧ FrP k w w' ∧ (k = 0 → w'.1 0 31 = (pF (uo F N0 x y r k S T U) U cnt i o z).2) := by
      intro cnt
      induction cnt with
      | zero =>
        intro i N o z w hi hN hC ho hL hz
        have : i = fQ F := by omega
        subst this
        exact ⟨N, w, by omega, rfl, hL, FrP.rfl' k w, fun _ => hz⟩
      | succ cnt ihc =>
        intro i N o z w hi hN hC ho hL hz
        have hm : (cnt + 1) * (cst r + 2) = cnt * (cst r + 2) + (cst r + 2) := Nat.succ_mul _ _
        obtain ⟨N, rfl⟩ : ∃ t, N = t + 1 := ⟨N - 1, by omega⟩
        have hiQ : i < fQ F := by omega
        obtain ⟨l1, l2, l3, l4, l5⟩ := id hL
        rw [m_cand hF hx hy hC hkQ hiQ hS hT hU hL, pF]
        -- the memory with the next one laid
        have fr1 : FrP k w (sA w 14 k (nI (i + 1))) := ⟨fun q j h1 h2 h3 => by
          by_cases e : q = 14
          · subst e; rw [sA_eq, upd_ne (by omega)]
          · rw [sA_ne e], fun q h1 h2 => sA_ne (by omega), fun f _ => by rw [sA_ne (by decide)], rfl, fun _ => by rw [sA_ne (by decide)]⟩
        have hL1 : Lv k S T U (i + 1) (eN k o) (sA w 14 k (nI (i + 1))) := ⟨by rw [sA_eq, upd_eq], by rw [sA_ne (by decide)]; exact l2, by rw [sA_ne (by decide)]; exact l3, by rw [sA_ne (by decide)]; exact l4, by rw [sA_ne (by decide)]; exact l5⟩
        have z1 : (sA w 14 k (nI (i + 1))).1 0 31 = z := by rw [sA_ne (by decide)]; exact hz
        have hC1 := hC.fr fr1
        generalize sA w 14 k (nI (i + 1)) = w1 at fr1 hL1 z1 hC1
        by_cases h1 : U.testBit i = true
        · rw [if_pos h1, if_pos h1]
          obtain ⟨N', w', g1, g2, g3, g4, g5⟩ := ihc (i + 1) N o z w1 (by omega) (by omega) hC1 ho hL1 z1
          exact ⟨N', w', by omega, g2, g3, fr1.trans g4, g5⟩
        · rw [if_neg h1, if_neg h1]
          have hu2 : uo F N0 x y r k S T U i ≤ 2 := uo_le ..
          have hoM : ∀ b, some (oM o (uo F N0 x y r k S T U i)) = some b → b ≤ 2 := by
            intro b hb
            injection hb with hb
            subst hb
            cases o with
            | none => exact hu2
            | some b =>
              have := ho b rfl
              show max b _ ≤ 2
              omega
          by_cases hB : S + nr0 F N0 T i ≤ fB F (pl x y k)
          · rw [if_pos hB]
            have hUi : U.testBit i = false := by simpa using h1
            have hBx := hF.2.2.2.1 (pl x y k) (pl_lt hx hy)
            obtain ⟨w2, a1, a2, a3, a4, a5⟩ := m_begin (k := k + 1) (Q := fQ F) (S := S + nr0 F N0 T i) (T := T ||| fO F i) (U := U ||| 2 ^ i) (w := w1) (by omega) hq hC1.1.2.1
            rw [bo_v a1]
            have hO := (hF.2.2.2.2.1 i hiQ).2.2
            obtain ⟨N2, w3, b1, b2, b3, b4, b5, -⟩ := ih (k + 1) (S + nr0 F N0 T i) (T ||| fO F i) (U ||| 2 ^ i) N w2 (by omega) (by omega) (hC1.fr a3) (by omega) (or7 _ (by omega) _ (by omega)).2 (or_lt6 hU (by omega)) (by rw [pc_or U hU i (by omega) hUi, hpc]) a2
            have fr3 : FrP k w1 w3 := a3.down.trans b5.down
            have hk3 : ∀ q, 14 ≤ q → q ≤ 18 → w3.1 q k = w1.1 q k := fun q h1 h2 => by rw [b5.1 q k h1 h2 (by omega), a5 q k h1 h2 (by omega)]
            have hC3 := hC1.fr fr3
            obtain ⟨N2, rfl⟩ : ∃ t, N2 = t + 1 := ⟨N2 - 1, by omega⟩
            have huv := uv_le F N0 x y r (k + 1) (S + nr0 F N0 T i) (T ||| fO F i) (U ||| 2 ^ i)
            have huo : uo F N0 x y r k S T U i = 2 - uv F N0 x y r (k + 1) (S + nr0 F N0 T i) (T ||| fO F i) (U ||| 2 ^ i) := if_pos hB
            rw [b2, m_pop (nI x) (nI y) (show k < 6 by omega) hq hC3.1.2.1 b3, b4, eV_flip _ _ huv, ← huo, hk3 14 (by decide) (by decide), hL1.1, show nI (i + 1) - 1 = nI i from by rw [nI_lit1, pk_sub (by omega)]; rfl]
            obtain ⟨w4, c1, c2, c3, c4, c5, c6, c7⟩ := m_take (k := k) (by omega) ho hu2 (nI i) (w := w3) (by rw [hk3 18 (by decide) (by decide)]; exact hL1.2.2.2.2)
            rw [bo_v c1]
            have fr4 : FrP k w3 w4 := ⟨fun q j h1 h2 h3 => by
              by_cases e : q = 18
              · subst e; exact c4 j (by omega)
              · rw [c3 q (by omega) e], fun q h1 h2 => c3 q h1 (by omega), c5, c6, fun h0 => by rw [c7, if_neg (by omega)]⟩
            have hL4 : Lv k S T U (i + 1) (eN k (some (oM o (uo F N0 x y r k S T U i)))) w4 := ⟨by rw [c3 14 (by decide) (by decide), hk3 14 (by decide) (by decide)]; exact hL1.1, by rw [c3 15 (by decide) (by decide), hk3 15 (by decide) (by decide)]; exact hL1.2.1, by rw [c3 16 (by decide) (by decide), hk3 16 (by decide) (by decide)]; exact hL1.2.2.1, by rw [c3 17 (by decide) (by decide), hk3 17 (by decide) (by decide)]; exact hL1.2.2.2.1, c2⟩
            obtain ⟨N', w', g1, g2, g3, g4, g5⟩ := ihc (i + 1) N2 (some (oM o (uo F N0 x y r k S T U i))) (w4.1 0 31) w4 (by omega) (by omega) (hC3.fr fr4) hoM hL4 rfl
            have z3 : w3.1 0 31 = z := by rw [b5.2.2.2.2 (by omega), a4]; exact z1
            refine ⟨N', w', by omega, g2, ?_, ((fr1.trans fr3).trans fr4).trans g4, fun h0 => ?_⟩
            · have := pF_some (u := uo F N0 x y r k S T U) (U := U) cnt (i + 1) (oM o (uo F N0 x y r k S T U i))
              rw [this] at g3 ⊢
              exact g3
            · rw [g5 h0, c7, z3]
              by_cases e : oB o (uo F N0 x y r k S T U i) = true
              · rw [if_pos ⟨h0, e⟩, if_pos e]
              · rw [if_neg (fun q => e q.2), if_neg e]
          · rw [if_neg hB]
            have huo : uo F N0 x y r k S T U i = 0 := if_neg hB
            obtain ⟨w4, c1, c2, c3, c4, c5, c6, c7⟩ := m_take (k := k) (by omega) ho (show 0 ≤ 2 by decide) (nI i) (w := w1) hL1.2.2.2.2
            rw [bo_v c1]
            have fr4 : FrP k w1 w4 := ⟨fun q j h1 h2 h3 => by
              by_cases e : q = 18
              · subst e; exact c4 j (by omega)
              · rw [c3 q (by omega) e], fun q h1 h2 => c3 q h1 (by omega), c5, c6, fun h0 => by rw [c7, if_neg (by omega)]⟩
            rw [huo] at hoM ⊢
            have hL4 : Lv k S T U (i + 1) (eN k (some (oM o 0))) w4 := ⟨by rw [c3 14 (by decide) (by decide)]; exact hL1.1, by rw [c3 15 (by decide) (by decide)]; exact hL1.2.1, by rw [c3 16 (by decide) (by decide)]; exact hL1.2.2.1, by rw [c3 17 (by decide) (by decide)]; exact hL1.2.2.2.1, c2⟩
            obtain ⟨N', w', g1, g2, g3, g4, g5⟩ := ihc (i + 1) N (some (oM o 0)) (w4.1 0 31) w4 (by omega) (by omega) (hC1.fr fr4) hoM hL4 rfl
            refine ⟨N', w', by omega, g2, ?_, (fr1.trans fr4).trans g4, fun h0 => ?_⟩
            · have := pF_some (u := uo F N0 x y r k S T U) (U := U) cnt (i + 1) (oM o 0)
              rw [this] at g3 ⊢
              exact g3
            · rw [g5 h0, c7, z1]
              by_cases e : oB o 0 = true
              · rw [if_pos ⟨h0, e⟩, if_pos e]
              · rw [if_neg (fun q => e q.2), if_neg e]
    have hcost : fQ F * (cst r + 2) ≤ cst (r + 1) := Nat.mul_le_mul_right _ hq
    have he : e0 (fQ F) k = eN k none := by
      unfold e0
      rw [if_neg (by omega)]; rfl
    rw [he] at hL
    obtain ⟨N', w', g1, g2, g3, g4, g5⟩ := lp (fQ F) 0 N none (w.1 0 31) w (by omega) (by omega) hC (fun b hb => by cases hb) hL rfl
    obtain ⟨j, hj1, hj2⟩ := pc_ex U hU (fQ F) (by omega) (by omega)
    have hn := pF_none (u := uo F N0 x y r k S T U) (U := U) (fQ F) 0 (w.1 0 31) ⟨j, by omega, by omega, hj2⟩
    rw [hn] at g3
    exact ⟨N', w', by omega, g2, Or.inl g3.1, g3.2.2.2.2, g4, fun h0 _ => g5 h0⟩
end PV

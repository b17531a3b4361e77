/-! PURE: rooms, people, faults -/
def addU (F : Fam) (u : Nat) : Fam := (fP F, fQ F, u, fB F, fK F, fT F, fO F)
def addP (F : Fam) (v : Nat) : Fam := (fP F + 1, fQ F, fU F, (fun x => if x = fP F then v else fB F x), fK F, fT F, fO F)
section PI
variable {c0 m0 c m : Mm} {t n p : Nat} {F : Fam}
theorem addU_c (hc : RdC c0 t n F c) (u : Nat) : RdC c0 t n (addU F u) (sA c 31 6 (nI u)) := by
  obtain ⟨⟨a1, a2, a3⟩, h1, h2, d1, d2, d3, d4, d5⟩ := hc
  exact ⟨⟨fun p hp => by rw [sA_ne (by omega)]; exact a1 p hp, by rw [sA_ne (by decide)]; exact a2, a3⟩, by rw [sA_ne (by decide)]; exact h1, h2, by rw [sA_eq, upd_ne (by decide)]; exact d1, by rw [sA_eq, upd_ne (by decide)]; exact d2, by rw [sA_eq, upd_eq]; rfl, fun x hx => by rw [sA_ne (by decide)]; exact d4 x hx, fun i hi => by rw [sA_ne (by decide), sA_ne (by decide), sA_ne (by decide)]; exact d5 i hi⟩
theorem addU_m (hm : RdM m0 t n p F m) (u : Nat) : RdM m0 t n p (addU F u) (sA m 0 24 (nI u)) := by
  obtain ⟨⟨a1, a2, a3, a4⟩, h1, h2, h3, d1, d2, d3, d4, d5⟩ := hm
  exact ⟨⟨fun p h1 h2 => by rw [sA_ne (by omega)]; exact a1 p h1 h2, fun t ht => by rw [sA_ne (by decide)]; exact a2 t ht, fun k hk => by rw [sA_eq, upd_ne (by omega)]; exact a3 k hk, a4⟩, by rw [sA_eq, upd_ne (by decide)]; exact h1, by rw [sA_eq, upd_ne (by decide)]; exact h2, by rw [sA_eq, upd_ne (by decide)]; exact h3, by rw [sA_eq, upd_ne (by decide)]; exact d1, by rw [sA_eq, upd_ne (by decide)]; exact d2, by rw [sA_eq, upd_eq]; rfl, fun x hx => by rw [sA_ne (by decide)]; exact d4 x hx, fun i hi => by rw [sA_ne (by decide)]; exact d5 i hi⟩
theorem addP_c (hc : RdC c0 t n F c) (v : Nat) : RdC c0 t n (addP F v) (sA (sA c 32 (fP F) (nI v)) 31 0 (nI (fP F + 1))) := by
  obtain ⟨⟨a1, a2, a3⟩, h1, h2, d1, d2, d3, d4, d5⟩ := hc
  refine ⟨⟨fun p hp => by rw [sA_ne (by omega), sA_ne (by omega)]; exact a1 p hp, by rw [sA_ne (by decide), sA_ne (by decide)]; exact a2, a3⟩, by rw [sA_ne (by decide), sA_ne (by decide)]; exact h1, h2, by rw [sA_eq, upd_eq]; rfl, by rw [sA_eq, upd_ne (by decide), sA_ne (by decide)]; exact d2, by rw [sA_eq, upd_ne (by decide), sA_ne (by decide)]; exact d3, fun x hx => ?_, fun i hi => by rw [sA_ne (by decide), sA_ne (by decide), sA_ne (by decide), sA_ne (by decide), sA_ne (by decide), sA_ne (by decide)]; exact d5 i hi⟩
  have hx : x < fP F + 1 := hx
  rw [sA_ne (by decide), sA_eq]
  show _ = nI (if x = fP F then v else fB F x)
  by_cases e : x = fP F
  · rw [if_pos e, e, upd_eq]
  · rw [if_neg e, upd_ne e]; exact d4 x (by omega)
theorem addP_m (hm : RdM m0 t n p F m) (v : Nat) : RdM m0 t n p (addP F v) (sA (sA m 11 (fP F) (nI v)) 0 21 (nI (fP F + 1))) := by
  obtain ⟨⟨a1, a2, a3, a4⟩, h1, h2, h3, d1, d2, d3, d4, d5⟩ := hm
  have z : ∀ f, f ≠ 21 → (sA (sA m 11 (fP F) (nI v)) 0 21 (nI (fP F + 1))).1 0 f = m.1 0 f := fun f hf => by rw [sA_eq, upd_ne hf, sA_ne (by decide)]
  refine ⟨⟨fun p h1 h2 => by rw [sA_ne (by omega), sA_ne (by omega)]; exact a1 p h1 h2, fun t ht => by rw [sA_ne (by decide), sA_ne (by decide)]; exact a2 t ht, fun k hk => by rw [z k (by omega)]; exact a3 k hk, a4⟩, by rw [z 17 (by decide)]; exact h1, by rw [z 18 (by decide)]; exact h2, by rw [z 19 (by decide)]; exact h3, by rw [sA_eq, upd_eq]; rfl, by rw [z 23 (by decide)]; exact d2, by rw [z 24 (by decide)]; exact d3, fun x hx => ?_, fun i hi => by rw [sA_ne (by decide), sA_ne (by decide)]; exact d5 i hi⟩
  have hx : x < fP F + 1 := hx
  rw [sA_ne (by decide), sA_eq]
  show _ = nI (if x = fP F then v else fB F x)
  by_cases e : x = fP F
  · rw [if_pos e, e, upd_eq]
  · rw [if_neg e, upd_ne e]; exact d4 x (by omega)
theorem addP_ok (hF : DrOk F) (h4 : fP F < 4) {v : Nat} (hv : v ≤ 9) : DrOk (addP F v) := by
  obtain ⟨f1, f2, f3, f4, f5⟩ := hF
  refine ⟨by show fP F + 1 ≤ 4; omega, f2, f3, fun x hx => ?_, f5⟩
  have hx : x < fP F + 1 := hx
  show (if x = fP F then v else fB F x) ≤ 9
  by_cases e : x = fP F
  · rw [if_pos e]; exact hv
  · rw [if_neg e]; exact f4 x (by omega)
theorem fgo_91 {v : Nat} (h : fgo m0 t n p 9 = some v) : fgo m0 t n p 1 = if v ≤ 1 then some v else none := by
  unfold fgo at h ⊢
  by_cases h1 : p < n
  · rw [if_pos h1] at h ⊢
    generalize (m0.1 9 (60 * t + p)).toInt = z at h ⊢
    by_cases h2 : 48 ≤ z ∧ z ≤ 48 + (9 : Nat)
    · rw [if_pos h2] at h
      injection h with h
      by_cases h3 : v ≤ 1
      · rw [if_pos h3, if_pos (by omega), h]
      · rw [if_neg h3, if_neg (by omega)]
    · rw [if_neg h2] at h; cases h
  · rw [if_neg h1] at h; cases h
theorem fgo_n91 (h : fgo m0 t n p 9 = none) : fgo m0 t n p 1 = none := by
  unfold fgo at h ⊢
  by_cases h1 : p < n
  · rw [if_pos h1] at h ⊢
    generalize (m0.1 9 (60 * t + p)).toInt = z at h ⊢
    by_cases h2 : 48 ≤ z ∧ z ≤ 48 + (9 : Nat)
    · rw [if_pos h2] at h; cases h
    · rw [if_neg (by omega)]
  · rw [if_neg h1]
theorem rd_room (hT : TxB c0 m0 t n) (hc : RdC c0 t n F c) (hm : RdM m0 t n p F m) (hF : DrOk F) (hp : p < n) (hP : 0 < fP F) : Out c0 m0 t n p (fX4_readRoom (nI p) c) (fX8_readsRoom m) := by
  have hn := hT.2.1
  obtain ⟨f1, f2, f3, f4, f5⟩ := id hF
  unfold fX4_readRoom fX4_readRoom_E fX4_readRoom_79 fX8_readsRoom fX8_readsRoom_E fX4_faultAt fX4_faultAt_E
  rw [hc.2.2.2.2.1, hm.2.2.2.2.2.1]
  by_cases hQ : fQ F = 0
  · rw [hQ, if_pos (show nI 0 = 0 from rfl), if_pos (show nI 0 = 0 from rfl)]
    exact Out.fail hc p hm hF (by omega) p
  · rw [if_neg (nI_ne0 (by omega) (by omega)), if_neg (nI_ne0 (by omega) (by omega))]
    have hm1 := hm.move (v := m.1 0 18 + 1) (q := p + 1) (by rw [hm.2.2.1, nI_1])
    simp only [nm]
    rw [nI_1, bo_v (c_fig hT hc (show p + 1 < 1000 by omega) (most := 1) (b := 1) rfl (by decide))]
    rcases m_fig hT hm1 (most := 1) (b := 1) rfl (by decide) (by omega) with ⟨g1, g2⟩ | ⟨a, m2, g1, g2, g3⟩
    · rw [g1, show gI none = -1 from rfl, if_neg (by decide), bd_v g2, if_pos rfl]
      unfold fX8_readsRoom_53
      rw [if_pos rfl]
      exact Out.fail hc (p + 1) hm1 hF (by omega) p
    · have ha := fgo_le g1
      rw [g1, show gI (some a) = nI a from rfl, if_pos (nI_ge0 (by omega)), bd_v g2, if_neg (nI_ne9 (by omega)), show nI p + 2 = nI (p + 2) from nI_add p 2, bo_v (c_fig hT hc (show p + 2 < 1000 by omega) (most := 9) (b := 9) rfl (by decide))]
      -- what the reference reads next
      have rd : (∃ v m3, fgo m0 t n (p + 2) 9 = some v ∧ 10 * a + v < 12 ∧ RdM m0 t n (p + 3) F m3 ∧ (if nI a = 1 then fX8_readsRoom_50 (nI a) 1 0 m2 else fX8_readsRoom_50 (nI a) 9 0 m2) = fX8_readsRoom_53 (nI a) (nI v) m3) ∨ ((fgo m0 t n (p + 2) 9 = none ∨ ∃ v, fgo m0 t n (p + 2) 9 = some v ∧ 12 ≤ 10 * a + v) ∧ (if nI a = 1 then fX8_readsRoom_50 (nI a) 1 0 m2 else fX8_readsRoom_50 (nI a) 9 0 m2) = fX8_readsRoom_53 (nI a) (-9) m2) := by
        unfold fX8_readsRoom_50
        by_cases e1 : a = 1
        · subst e1
          rw [if_pos (show nI 1 = 1 from rfl)]
          rcases m_fig hT g3 (most := 1) (b := 1) rfl (by decide) (by omega) with ⟨e1, e2⟩ | ⟨v, m3, e1, e2, e3⟩
          · rw [bd_v e2]
            refine Or.inr ⟨?_, rfl⟩
            cases h9 : fgo m0 t n (p + 2) 9 with
            | none => exact Or.inl rfl
            | some v =>
              have := fgo_91 h9
              rw [show p + 1 + 1 = p + 2 from rfl] at e1
              rw [e1] at this
              by_cases hv : v ≤ 1
              · rw [if_pos hv] at this; cases this
              · exact Or.inr ⟨v, rfl, by omega⟩
          · rw [bd_v e2]
            rw [show p + 1 + 1 = p + 2 from rfl] at e1
            have hv := fgo_le e1
            cases h9 : fgo m0 t n (p + 2) 9 with
            | none => rw [fgo_n91 h9] at e1; cases e1
            | some v' =>
              have := fgo_91 h9
              rw [e1] at this
              by_cases hv' : v' ≤ 1
              · rw [if_pos hv'] at this
                injection this with this
                subst this
                exact Or.inl ⟨v, m3, rfl, by omega, e3, rfl⟩
              · rw [if_neg hv'] at this; cases this
        · rw [if_neg (show ¬ nI a = (1 : Int32) from by rw [nI_lit1, nI_eq (by omega) (by decide)]; exact e1)]
          rcases m_fig hT g3 (most := 9) (b := 9) rfl (by decide) (by omega) with ⟨e1, e2⟩ | ⟨v, m3, e1, e2, e3⟩
          · rw [bd_v e2]
            exact Or.inr ⟨Or.inl e1, rfl⟩
          · rw [bd_v e2]
            rw [show p + 1 + 1 = p + 2 from rfl] at e1
            have hv := fgo_le e1
            exact Or.inl ⟨v, m3, e1, by omega, e3, rfl⟩
      rcases rd with ⟨v, m3, e1, e2, e3, e4⟩ | ⟨e1, e2⟩
      · have hv := fgo_le e1
        rw [e1, e4, show gI (some v) = nI v from rfl, if_neg (nI_pos (by omega)), show nI a * 10 + nI v = nI (a * 10 + v) from by rw [show nI a * 10 = nI (a * 10) from pk_mul a 10, nI_add], if_neg (show ¬ (12 : Int32) ≤ nI (a * 10 + v) from nI_ge (show a * 10 + v < 12 by omega) (by decide)), sh1 _ (by omega), hc.2.2.2.2.2.1, show nI p + 3 = nI (p + 3) from nI_add p 3]
        unfold fX8_readsRoom_53
        simp only [nm]
        rw [if_neg (nI_ne9 (by omega)), show (10 : Int32) * nI a + nI v = nI (a * 10 + v) from by rw [show (10 : Int32) * nI a = nI (10 * a) from pk_mul 10 a, nI_add, Nat.mul_comm], e3.2.2.2.2.2.2.1, bo_v (has_m (by omega) (by omega)), if_10, sh1 _ (by omega), fa_or]
        by_cases hb : (fU F).testBit (a * 10 + v) = true
        · rw [if_neg (fun q => by rw [(fa_bit (by omega)).mp q] at hb; exact absurd hb (by decide)), if_pos hb]
          exact Out.fail hc (p + 2) (e3.move (by rw [e3.2.2.1, nI_lit1, pk_sub (by omega)]; rfl)) hF (by omega) p
        · rw [if_pos ((fa_bit (by omega)).mpr (by simpa using hb)), if_neg hb]
          exact ⟨true, p + 3, addU F (fU F ||| 2 ^ (a * 10 + v)), _, _, rfl, rfl, addU_c hc _, addU_m e3 _, ⟨f1, f2, or_lt12 f3 (by omega), f4, f5⟩, by omega, fun _ => ⟨by omega, by omega, hP⟩⟩
      · rw [e2]
        unfold fX8_readsRoom_53
        rw [if_pos rfl]
        rcases e1 with e1 | ⟨v, e1, e3⟩
        · rw [e1, show gI none = -1 from rfl, if_pos (by decide)]
          exact Out.fail hc (p + 2) g3 hF (by omega) p
        · have hv := fgo_le e1
          rw [e1, show gI (some v) = nI v from rfl, if_neg (nI_pos (by omega)), show nI a * 10 + nI v = nI (a * 10 + v) from by rw [show nI a * 10 = nI (a * 10) from pk_mul a 10, nI_add], if_pos (show (12 : Int32) ≤ nI (a * 10 + v) from nI_le (show 12 ≤ a * 10 + v by omega) (by omega))]
          exact Out.fail hc (p + 2) g3 hF (by omega) p
/-- people -/
theorem rd_people (hT : TxB c0 m0 t n) : ∀ r q N M (F : Fam) (c m : Mm), q + r = n → r < N → r < M → RdC c0 t n F c → RdM m0 t n q F m → DrOk F → ∃ b q' F' c' m', fX4_readPeople_19 N (nI q) c = some (rv b q', c') ∧ fX8_readsPeople_36 M m = some ((if b = true then 1 else 0), m') ∧ RdC c0 t n F' c' ∧ RdM m0 t n q' F' m' ∧ DrOk F' ∧ q' ≤ n ∧ fQ F' = fQ F ∧ (b = true → 0 < fP F') := by
  have hn := hT.2.1
  intro r
  induction r with
  | zero =>
    intro q N M F c m hq hN hM hc hm hF
    obtain ⟨N, rfl⟩ : ∃ t, N = t + 1 := ⟨N - 1, by omega⟩
    obtain ⟨M, rfl⟩ : ∃ t, M = t + 1 := ⟨M - 1, by omega⟩
    have f1 := hF.1
    have hfg : fgo m0 t n q 9 = none := by unfold fgo; rw [if_neg (by omega)]
    rw [fX4_readPeople_19, hc.2.1, if_pos (nI_le (by omega) (by omega)), fX8_readsPeople_36, bo_v (m_isFig hT hm (most := 9) (b := 9) rfl (by decide) (by omega)), if_10, hfg, if_neg (by decide), hm.2.2.2.2.1]
    unfold fX4_readPeople_94 fX4_faultAt fX4_faultAt_E
    rw [hc.2.2.2.1]
    by_cases h0 : fP F = 0
    · rw [h0, if_pos (by decide), if_pos (by decide)]
      exact ⟨false, q, F, c, m, rfl, rfl, hc, hm, hF, by omega, rfl, fun h => by cases h⟩
    · rw [if_neg (show ¬ nI (fP F) ≤ (0 : Int32) from nI_ge (show 0 < fP F by omega) (by omega)), if_neg (show ¬ nI (fP F) ≤ (0 : Int32) from nI_ge (show 0 < fP F by omega) (by omega))]
      exact ⟨true, q, F, c, m, rfl, rfl, hc, hm, hF, by omega, rfl, fun _ => by omega⟩
  | succ r ih =>
    intro q N M F c m hq hN hM hc hm hF
    obtain ⟨N, rfl⟩ : ∃ t, N = t + 1 := ⟨N - 1, by omega⟩
    obtain ⟨M, rfl⟩ : ∃ t, M = t + 1 := ⟨M - 1, by omega⟩
    have f1 := hF.1
    rw [fX4_readPeople_19, hc.2.1, if_neg (nI_ge (by omega) (by omega)), bo_v (c_fig hT hc (show q < 1000 by omega) (most := 9) (b := 9) rfl (by decide)), fX8_readsPeople_36, bo_v (m_isFig hT hm (most := 9) (b := 9) rfl (by decide) (by omega)), if_10, hm.2.2.2.2.1]
    unfold fX4_readPeople_94 fX4_faultAt fX4_faultAt_E
    rw [hc.2.2.2.1]
    rcases m_fig hT hm (most := 9) (b := 9) rfl (by decide) (by omega) with ⟨g1, g2⟩ | ⟨v, m2, g1, g2, g3⟩
    · rw [g1, if_pos (show gI none < 0 by decide), if_neg (show ¬ (none : Option Nat).isSome = true by decide)]
      by_cases h0 : fP F = 0
      · rw [h0, if_pos (by decide), if_pos (by decide)]
        exact ⟨false, q, F, c, m, rfl, rfl, hc, hm, hF, by omega, rfl, fun h => by cases h⟩
      · rw [if_neg (show ¬ nI (fP F) ≤ (0 : Int32) from nI_ge (show 0 < fP F by omega) (by omega)), if_neg (show ¬ nI (fP F) ≤ (0 : Int32) from nI_ge (show 0 < fP F by omega) (by omega))]
        exact ⟨true, q, F, c, m, rfl, rfl, hc, hm, hF, by omega, rfl, fun _ => by omega⟩
    · have hv := fgo_le g1
      rw [g1, if_neg (show ¬ gI (some v) < 0 from nI_pos (by omega)), if_pos (show (some v).isSome = true from rfl), bo_v (show fX4_figure (nI q) 9 c = some (nI v) from by rw [c_fig hT hc (show q < 1000 by omega) (most := 9) (b := 9) rfl (by decide), g1]; rfl), bd_v g2]
      by_cases h4 : fP F = 4
      · rw [h4, if_neg (by decide), if_pos (by decide)]
        exact ⟨false, q, F, c, m, rfl, rfl, hc, hm, hF, by omega, rfl, fun h => by cases h⟩
      · rw [if_pos (show nI (fP F) < (4 : Int32) from (nI_ltI (b := 4) (by omega) (by decide)).mpr (by omega)), if_neg (show ¬ nI (fP F) = (4 : Int32) from by rw [nI_lit4, nI_eq (by omega) (by decide)]; exact h4), gd_t (inb_nI (by omega) (by decide)), gd_t (inb_nI (by omega) (by decide)), nI_clamp (by omega)]
        simp only [nm]
        have q1 : (sA c 32 (fP F) (nI v)).1 31 0 = nI (fP F) := by rw [sA_ne (by decide)]; exact hc.2.2.2.1
        have q2 : (sA m2 11 (fP F) (nI v)).1 0 21 = nI (fP F) := by rw [sA_ne (by decide)]; exact g3.2.2.2.2.1
        rw [q1, q2, nI_1, nI_1]
        obtain ⟨b, q', F', c', m', k1, k2, k3, k4, k5, k6, k7, k8⟩ := ih (q + 1) N M (addP F v) _ _ (by omega) (by omega) (by omega) (addP_c hc v) (addP_m g3 v) (addP_ok hF (by omega) (by omega))
        exact ⟨b, q', F', c', m', k1, k2, k3, k4, k5, k6, k7, k8⟩
theorem rv_neg : ∀ q, q < 100 → (-1 - nI q : Int32) < 0 ∧ (-1 : Int32) - (-1 - nI q) = nI q := by decide +kernel
/-- what faultOf ends with -/
def End (c0 m0 : Mm) (t n : Nat) (x y : Option (Int32 × Mm)) : Prop := ∃ r q F' c' m', x = some (r, c') ∧ y = some (r, m') ∧ RdC c0 t n F' c' ∧ RdM m0 t n q F' m' ∧ DrOk F' ∧ ((r = -9 ∧ 0 < fP F' ∧ 0 < fQ F') ∨ ∃ k, r = nI k ∧ k < 100)
theorem rd_stop (hc : RdC c0 t n F c) {q : Nat} (hm : RdM m0 t n q F m) (hF : DrOk F) (hq : q < 100) {k N M : Nat} (hk : k ≤ 60) : End c0 m0 t n (fX4_faultOf_30_T_35 (N + 1) (-1 - nI q) (nI k) c) (fX8_faultOf_51 (M + 1) 0 m) := by
  obtain ⟨h1, h2⟩ := rv_neg q hq
  rw [fX4_faultOf_30_T_35, if_neg (show ¬ (60 : Int32) < nI k from fun g => absurd ((nI_ltI (a := 60) (by decide) (by omega)).mp g) (by omega)), if_pos h1, fX8_faultOf_51, if_pos rfl]
  unfold fX4_faultOf_30_T_107 fX4_faultAt fX4_faultAt_E fX8_faultOf_98 fX8_faultOf_114
  rw [h2, if_pos rfl, hm.2.2.1]
  exact ⟨nI q, q, F, c, m, rfl, rfl, hc, hm, hF, Or.inr ⟨q, rfl, hq⟩⟩
theorem rd_loop (hT : TxB c0 m0 t n) : ∀ S p k N M (F : Fam) (c m : Mm), n - p < S → p ≤ n → S + 1 < N → S + 1 < M → 3 * k ≤ p → RdC c0 t n F c → RdM m0 t n (skp m0 t n (n - p) p) F m → DrOk F → 0 < fP F → End c0 m0 t n (fX4_faultOf_30_T_35 N (nI p) (nI k) c) (fX8_faultOf_51 M 1 m) := by
  have hn := hT.2.1
  intro S
  induction S with
  | zero => intro p k N M F c m h; omega
  | succ S ih =>
    intro p k N M F c m hS hp hN hM hk hc hm hF hP
    obtain ⟨N, rfl⟩ : ∃ t, N = t + 1 := ⟨N - 1, by omega⟩
    obtain ⟨M, rfl⟩ : ∃ t, M = t + 1 := ⟨M - 1, by omega⟩
    obtain ⟨s1, s2⟩ := skp_le (m0 := m0) (t := t) (n := n) (n - p) p hp
    rw [fX4_faultOf_30_T_35, if_neg (show ¬ (60 : Int32) < nI k from fun g => absurd ((nI_ltI (a := 60) (by decide) (by omega)).mp g) (by omega)), if_neg (nI_pos (by omega)), bo_v (c_skip1 hT hc hp), hc.2.1, hc.2.2.2.2.1, fX8_faultOf_51, if_neg (show ¬ (1 : Int32) = 0 by decide), hm.2.2.1, hm.2.2.2.1]
    generalize skp m0 t n (n - p) p = q at s1 s2 hm
    by_cases hq : q < n
    · rw [if_pos ((nI_ltI (by omega) (by omega)).mpr hq), if_neg (nI_ge hq (by omega)), bo_v (c_sign hT hc (by omega)), if_pos hq, bo_v (m_here hT hm hq)]
      have go : ∀ x y, Out c0 m0 t n q x y → End c0 m0 t n (bd x (fun r w => fX4_faultOf_30_T_100 (fX4_faultOf_30_T_35 N) (nI k) r w)) (bd y (fun r w => fX8_faultOf_86 (fX8_faultOf_51 M) r w)) := by
        intro x y hxy
        obtain ⟨b, q2, F', c', m', o1, o2, o3, o4, o5, o6, o7⟩ := hxy
        rw [bd_v o1, bd_v o2]
        unfold fX4_faultOf_30_T_100 fX8_faultOf_86
        rw [nI_1]
        cases b with
        | true =>
          obtain ⟨u1, u2, u3⟩ := o7 rfl
          rw [if_pos (show true = true from rfl), if_neg (show ¬ (1 : Int32) = 0 by decide), show rv true q2 = nI q2 from rfl]
          obtain ⟨m3, v1, v2⟩ := m_skip1 hT o4 u2
          rw [bo_v v1]
          exact ih q2 (k + 1) N M F' c' m3 (by omega) u2 (by omega) (by omega) (by omega) o3 v2 o5 u3
        | false =>
          rw [if_neg (show ¬ false = true by decide), if_pos rfl, show rv false q2 = -1 - nI q2 from rfl]
          obtain ⟨N, rfl⟩ : ∃ t, N = t + 1 := ⟨N - 1, by omega⟩
          obtain ⟨M, rfl⟩ : ∃ t, M = t + 1 := ⟨M - 1, by omega⟩
          exact rd_stop o3 o4 o5 o6 (by omega)
      by_cases h100 : m0.1 9 (60 * t + q) = 100
      · rw [if_pos h100, if_pos h100]
        exact go _ _ (rd_room hT hc hm hF hq hP)
      · rw [if_neg h100, if_neg h100]
        exact go _ _ (rd_say hT hc hm hF hq hP)
    · rw [if_neg (fun g => hq ((nI_ltI (by omega) (by omega)).mp g)), if_pos (nI_le (by omega) (by omega))]
      unfold fX8_faultOf_98 fX8_faultOf_114
      have f2 := hF.2.1
      rw [if_neg (show ¬ (1 : Int32) = 0 by decide), hm.2.2.2.2.2.1, hm.2.2.1]
      by_cases h0 : fQ F = 0
      · rw [h0, if_pos (by decide), if_pos (by decide)]
        exact ⟨nI q, q, F, c, m, rfl, rfl, hc, hm, hF, Or.inr ⟨q, rfl, by omega⟩⟩
      · rw [if_neg (show ¬ nI (fQ F) ≤ (0 : Int32) from nI_ge (show 0 < fQ F by omega) (by omega)), if_neg (show ¬ nI (fQ F) ≤ (0 : Int32) from nI_ge (show 0 < fQ F by omega) (by omega))]
        exact ⟨-9, q, F, c, m, rfl, rfl, hc, hm, hF, Or.inl ⟨rfl, hP, by omega⟩⟩
end PI
def fam0 : Fam := (0, 0, 0, fun _ => 0, fun _ => 0, fun _ => 0, fun _ => 0)
theorem c_clear (w : Mm) : ∃ w', fX2_clear_31 w = some w' ∧ (∀ p, p ≠ 31 → p ≠ 36 → w'.1 p = w.1 p) ∧ w'.2 = w.2 ∧ w'.1 31 0 = 0 ∧ w'.1 31 2 = 0 ∧ w'.1 31 6 = 0 := by
  unfold fX2_clear_31 fX2_clear_31_E
  simp only [nm]
  refine ⟨_, rfl, fun p h1 _ => ?_, rfl, ?_, ?_, ?_⟩
  · rw [sA_ne h1, sA_ne h1, sA_ne h1]
  · rw [sA_eq, upd_ne (by decide), sA_eq, upd_ne (by decide), sA_eq, upd_eq]
  · rw [sA_eq, upd_ne (by decide), sA_eq, upd_eq]
  · rw [sA_eq, upd_eq]
theorem bo_e {α γ : Type} (v : α) (k : α → Option γ) : bo (some v) k = k v := rfl
theorem bd_e {α β γ : Type} (a : α) (b : β) (k : α → β → Option γ) : bd (some (a, b)) k = k a b := rfl
theorem rd_fault {c m : Mm} {t n : Nat} (hT : TxB c m t n) (hz : m.1 8 t = nI n) : End c m t n (fX4_faultOf_30_T (13 + t) (nI n) c) (fX8_faultOf (nI t) m) := by
  obtain ⟨ht, hn, -⟩ := id hT
  unfold fX4_faultOf_30_T fX4_faultOf_30_T_E fX8_faultOf fX8_faultOf_E
  simp only [nm]
  rw [gd_t (⟨by omega, by omega⟩ : 13 ≤ 13 + t ∧ 13 + t < 17), if_neg (show ¬ (60 : Int32) < nI n from fun g => absurd ((nI_ltI (a := 60) (by decide) (by omega)).mp g) (by omega)), gd_t (inb_nI ht (by decide))]
  obtain ⟨c1, a1, a2, a3, a4, a5, a6⟩ := c_clear (sA (sR c (13 + t)) 30 2 (nI n))
  have hc : RdC c t n fam0 c1 := by
    refine ⟨⟨fun p hp => ?_, ?_, ?_⟩, ?_, ?_, a4, a5, a6, fun x hx => absurd hx (Nat.not_lt_zero x), fun i hi => absurd hi (Nat.not_lt_zero i)⟩
    · rw [a2 p (by omega) (by omega), sA_ne (by omega)]; rfl
    · rw [a2 43 (by decide) (by decide), sA_ne (by decide)]; rfl
    · rw [a3]; rfl
    · rw [a2 30 (by decide) (by decide), sA_eq, upd_eq]
    · rw [a3]; rfl
  rw [bo_v a1]
  have e60 : (60 : Int32) * nI t = nI (60 * t) := pk_mul 60 t
  have e8 : (sA (sA m 0 17 (60 * nI t)) 0 18 0).1 8 (nI t).toNatClampNeg = nI n := by rw [sA_ne (by decide), sA_ne (by decide), nI_clamp (by omega)]; exact hz
  rw [e8, e60]
  generalize hm1 : sA (sA (sA (sA (sA (sA m 0 17 (nI (60 * t))) 0 18 0) 0 19 (nI n)) 0 21 0) 0 23 0) 0 24 0 = m1
  have hm : RdM m t n 0 fam0 m1 := by
    refine ⟨⟨fun p h1 h2 => ?_, fun k hk => ?_, fun k hk => ?_, ?_⟩, ?_, ?_, ?_, ?_, ?_, ?_, fun x hx => absurd hx (Nat.not_lt_zero x), fun i hi => absurd hi (Nat.not_lt_zero i)⟩
    · rw [← hm1, sA_ne (by omega), sA_ne (by omega), sA_ne (by omega), sA_ne (by omega), sA_ne (by omega), sA_ne (by omega)]
    · rw [← hm1, sA_ne (by decide), sA_ne (by decide), sA_ne (by decide), sA_ne (by decide), sA_ne (by decide), sA_ne (by decide)]
    · rw [← hm1, sA_eq, upd_ne (by omega), sA_eq, upd_ne (by omega), sA_eq, upd_ne (by omega), sA_eq, upd_ne (by omega), sA_eq, upd_ne (by omega), sA_eq, upd_ne (by omega)]
    · rw [← hm1]; rfl
    · rw [← hm1, sA_eq, upd_ne (by decide), sA_eq, upd_ne (by decide), sA_eq, upd_ne (by decide), sA_eq, upd_ne (by decide), sA_eq, upd_ne (by decide), sA_eq, upd_eq]
    · rw [← hm1, sA_eq, upd_ne (by decide), sA_eq, upd_ne (by decide), sA_eq, upd_ne (by decide), sA_eq, upd_ne (by decide), sA_eq, upd_eq]; rfl
    · rw [← hm1, sA_eq, upd_ne (by decide), sA_eq, upd_ne (by decide), sA_eq, upd_ne (by decide), sA_eq, upd_eq]
    · rw [← hm1, sA_eq, upd_ne (by decide), sA_eq, upd_ne (by decide), sA_eq, upd_eq]; rfl
    · rw [← hm1, sA_eq, upd_ne (by decide), sA_eq, upd_eq]; rfl
    · rw [← hm1, sA_eq, upd_eq]; rfl
  have hF0 : DrOk fam0 := ⟨Nat.zero_le _, Nat.zero_le _, by show 0 < 4096; decide, fun x hx => absurd hx (Nat.not_lt_zero x), fun i hi => absurd hi (Nat.not_lt_zero i)⟩
  have b1 : fX4_behindBlanks 0 c1 = some (nI (skp m t n (n - 0) 0)) := c_skip1 hT hc (Nat.zero_le _)
  obtain ⟨m2, v1, v2⟩ := m_skip1 hT hm (Nat.zero_le _)
  obtain ⟨s1, s2⟩ := skp_le (m0 := m) (t := t) (n := n) (n - 0) 0 (Nat.zero_le _)
  unfold fX8_readsPeople fX8_readsPeople_E fX4_readPeople fX4_readPeople_E fX4_faultAt fX4_faultAt_E
  rw [bo_v b1, bo_v v1, v2.2.2.1, v2.2.2.2.1]
  generalize skp m t n (n - 0) 0 = q at s1 s2 v2
  rw [bo_v (c_sign hT hc (by omega))]
  have stop : ∀ r, r = q → End c m t n (fX4_faultOf_30_T_35 FU (-1 - nI r) 0 c1) (fX8_faultOf_51 FU 0 m2) := by
    intro r hr
    subst hr
    exact rd_stop hc v2 hF0 (by omega) (k := 0) (N := 999999999999) (M := 999999999999) (by decide)
  by_cases hq : q < n
  · rw [if_pos hq, if_neg (show ¬ nI q = nI n by rw [nI_eq (by omega) (by omega)]; omega), bo_v (m_here hT v2 hq)]
    by_cases hf : m.1 9 (60 * t + q) = 102
    · rw [if_pos hf, if_pos hf, nI_1]
      obtain ⟨b, q', F', c', m', k1, k2, k3, k4, k5, k6, k7, k8⟩ := rd_people hT (n - (q + 1)) (q + 1) FU FU fam0 c1 _ (by omega) (FU_lt (by omega)) (FU_lt (by omega)) hc (v2.move (v := nI (q + 1)) rfl) hF0
      rw [nm_eq, nm_eq, bd_v k1, bd_v k2]
      cases b with
      | true =>
        rw [if_pos (show true = true from rfl), if_neg (show ¬ (1 : Int32) = 0 by decide), show rv true q' = nI q' from rfl]
        obtain ⟨m3, g1, g2⟩ := m_skip1 hT k4 k6
        rw [bo_v g1]
        exact rd_loop hT 61 q' 0 FU FU F' c' m3 (by omega) k6 (FU_lt (by decide)) (FU_lt (by decide)) (by omega) k3 g2 k5 (k8 rfl)
      | false =>
        rw [if_neg (show ¬ false = true by decide), if_pos rfl, show rv false q' = -1 - nI q' from rfl]
        exact rd_stop k3 k4 k5 (by omega) (k := 0) (N := 999999999999) (M := 999999999999) (by decide)
    · rw [if_neg hf, if_neg hf, bo_e, bd_e, bd_e, if_pos rfl]
      exact stop q rfl
  · rw [if_neg hq, if_neg (by decide), if_pos (show nI q = nI n by rw [show q = n by omega]), bo_e, bd_e, bd_e, if_pos rfl]
    exact stop q rfl

theorem Rel.tx {c m : Mm} (h : Rel c m) {t n : Nat} (ht : t < 4) (hn : n ≤ 60) : TxB c m t n := ⟨ht, hn, fun i hi => (h.2.2.1 t ht).2.2 i hi⟩
theorem sim_fault {c m : Mm} (h : Rel c m) (x1 : Int32) : Sim (fX7_fault x1 c) (fX8_fault x1 m) := by
  unfold fX7_fault fX7_fault_E fX8_fault fX8_fault_E
  rw [bo_v (isText_eq x1), if_10]
  by_cases h1 : inb x1 4 = true
  · rw [if_pos h1, gd_t h1]
    obtain ⟨t, ht, -, rfl⟩ := inb_ex h1
    rw [c_ref10 ht, nI_clamp (by omega), bd_id, bd_id]
    rcases h.2.2.1.sz ht with ⟨e1, e2⟩ | ⟨n, hn, e1, e2⟩
    · rw [if_pos e1, e2, if_neg m1_ge0, bd_ref (f := 1) (k := 1) rfl (by decide)]
      exact sim_find h (k := 1) rfl (by decide) (by decide)
    · rw [e1, e2, if_neg (nI_ne_m1 (by omega)), if_pos (nI_ge0 (by omega)), bd_0, gd_t h1, bd_id, e1]
      obtain ⟨r, q, F', c', m', a1, a2, a3, a4, a5, a6⟩ := rd_fault (h.tx ht hn) e2
      rw [a1, a2]
      exact Sim.ret (h.sc a3.1 a4.1)
  · rw [if_neg h1, c_ref10n h1]
    exact Sim.ret h
/-! family -/
theorem c_kept (r : Int32 × Mm → Prop) : ∀ k j N (w : Mm), j + k = 3 → k < N → ∃ w', fX7_family_65 N (nI j) w = some (w'.1 23 2, w') ∧ (∀ i, j ≤ i → i < 3 → w'.1 19 i = -1) ∧ (∀ i, i < j → w'.1 19 i = w.1 19 i) ∧ (∀ p, p ≠ 19 → w'.1 p = w.1 p) ∧ w'.2 = w.2 := by
  intro k
  induction k with
  | zero =>
    intro j N w hj hN
    obtain ⟨N, rfl⟩ : ∃ t, N = t + 1 := ⟨N - 1, by omega⟩
    have : j = 3 := by omega
    subst this
    rw [fX7_family_65, if_pos (by decide)]
    exact ⟨w, rfl, fun i h1 h2 => by omega, fun _ _ => rfl, fun _ _ => rfl, rfl⟩
  | succ k ih =>
    intro j N w hj hN
    obtain ⟨N, rfl⟩ : ∃ t, N = t + 1 := ⟨N - 1, by omega⟩
    rw [fX7_family_65, if_neg (show ¬ (3 : Int32) ≤ nI j from nI_ge (show j < 3 by omega) (by decide)), gd_t (inb_nI (by omega) (by decide)), nI_clamp (by omega)]
    simp only [nm]
    rw [nI_1]
    obtain ⟨w', g1, g2, g3, g4, g5⟩ := ih (j + 1) N (sA w 19 j (-1)) (by omega) (by omega)
    refine ⟨w', g1, fun i h1 h2 => ?_, fun i hi => ?_, fun p hp => by rw [g4 p hp, sA_ne hp], g5⟩
    · by_cases e : i = j
      · subst e; rw [g3 i (by omega), sA_eq, upd_eq]
      · exact g2 i (by omega) h2
    · rw [g3 i (by omega), sA_eq, upd_ne (by omega)]
theorem m_k183 : ∀ k j N (w : Mm), j + k = 4 → k < N → ∃ w', fX8_family_183 N (nI j) w = some (w'.1 0 3, w') ∧ (∀ i, j ≤ i → i < 4 → w'.1 1 (411 * i) = -1) ∧ (∀ i, i < 411 * j → w'.1 1 i = w.1 1 i) ∧ (∀ p, p ≠ 1 → w'.1 p = w.1 p) ∧ w'.2 = w.2 := by
  intro k
  induction k with
  | zero =>
    intro j N w hj hN
    obtain ⟨N, rfl⟩ : ∃ t, N = t + 1 := ⟨N - 1, by omega⟩
    have : j = 4 := by omega
    subst this
    rw [fX8_family_183, if_pos (by decide)]
    exact ⟨w, rfl, fun i h1 h2 => by omega, fun _ _ => rfl, fun _ _ => rfl, rfl⟩
  | succ k ih =>
    intro j N w hj hN
    obtain ⟨N, rfl⟩ : ∃ t, N = t + 1 := ⟨N - 1, by omega⟩
    rw [fX8_family_183, if_neg (show ¬ (4 : Int32) ≤ nI j from nI_ge (show j < 4 by omega) (by decide)), show (411 : Int32) * nI j + 0 = nI (411 * j) from by rw [i32_add0]; exact pk_mul 411 j, gd_t (inb_nI (by omega) (by decide)), nI_clamp (by omega)]
    simp only [nm]
    rw [nI_1]
    obtain ⟨w', g1, g2, g3, g4, g5⟩ := ih (j + 1) N (sA w 1 (411 * j) (-1)) (by omega) (by omega)
    refine ⟨w', g1, fun i h1 h2 => ?_, fun i hi => ?_, fun p hp => by rw [g4 p hp, sA_ne hp], g5⟩
    · by_cases e : i = j
      · subst e; rw [g3 _ (by omega), sA_eq, upd_eq]
      · exact g2 i (by omega) h2
    · rw [g3 i (by omega), sA_eq, upd_ne (by omega)]
theorem m_k153f {fin : Mm → Option (Int32 × Mm)} (hx : ∀ w, nm (sA w 1 4 (-9)) (fun w_5 => fX8_family_183 FU 1 w_5) = fin w) (w : Mm) : fX8_family_153 FU (nI 0) w = fin (sF w 1 (fun t => if t < 411 then 0 else w.1 1 t)) := by
  have h := lp_i (f := fX8_family_153) (step := fun j w => sA w 1 (0 + j) 0) (fin := fin) (fun _ _ => True) 411 (fun n j w hj _ => ⟨by
    rw [fX8_family_153, if_neg (show ¬ (411 : Int32) ≤ nI j from nI_ge hj (by decide)), gd_t (inb_nI (by omega) (by decide)), nI_clamp (by omega), nI_1, Nat.zero_add, nm_eq], trivial⟩) (fun n w _ => by rw [fX8_family_153, if_pos (by decide), hx]) 411 0 FU w rfl (FU_lt (by decide)) trivial
  have ef : (fun t => if 0 + 0 ≤ t ∧ t < 0 + 0 + 411 then (0 : Int32) else w.1 1 t) = (fun t => if t < 411 then 0 else w.1 1 t) := by
    funext t
    by_cases e : t < 411
    · rw [if_pos (by omega), if_pos e]
    · rw [if_neg (by omega), if_neg e]
  rw [h, itr_fill, ef]
theorem m_k153 (w : Mm) : ∃ w', fX8_family_153 FU 0 w = some (w'.1 0 3, w') ∧ (∀ i, 1 ≤ i → i < 4 → w'.1 1 (411 * i) = -1) ∧ (∀ i, i < 411 → w'.1 1 i = if i = 4 then -9 else 0) ∧ (∀ p, p ≠ 1 → w'.1 p = w.1 p) ∧ w'.2 = w.2 := by
  have h := m_k153f (fin := fun w => nm (sA w 1 4 (-9)) (fun w_5 => fX8_family_183 FU 1 w_5)) (fun _ => rfl) w
  have h' : fX8_family_153 FU 0 w = _ := (congrArg (fun z => fX8_family_153 FU z w) (show (0 : Int32) = nI 0 from rfl)).trans h
  obtain ⟨w', g1, g2, g3, g4, g5⟩ := m_k183 3 1 FU (sA (sF w 1 (fun t => if t < 411 then 0 else w.1 1 t)) 1 4 (-9)) (by omega) (FU_lt (by decide))
  have g1' : fX8_family_183 FU 1 (sA (sF w 1 (fun t => if t < 411 then 0 else w.1 1 t)) 1 4 (-9)) = _ := (congrArg (fun z => fX8_family_183 FU z (sA (sF w 1 (fun t => if t < 411 then 0 else w.1 1 t)) 1 4 (-9))) (show (1 : Int32) = nI 1 from rfl)).trans g1
  refine ⟨w', ?_, g2, fun i hi => ?_, fun p hp => by rw [g4 p hp, sA_ne hp, sF_ne hp], g5⟩
  · rw [h', nm_eq]
    exact g1'
  · rw [g3 i (by omega), sA_eq]
    by_cases e : i = 4
    · subst e; rw [upd_eq, if_pos rfl]
    · rw [upd_ne e, sF_eq, if_pos hi, if_neg e]

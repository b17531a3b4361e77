/-! PURE: deeds -/
theorem ena_day (F : Fam) (d : Dyn) : ena F d (-1) = dayd d := if_pos rfl
theorem ena_say (F : Fam) (d : Dyn) {x i : Nat} (hx : x < 1000) (hi : i < 6) : ena F d (nI (6 * x + i)) = utt F d x i := by
  unfold ena
  rw [if_neg (nI_ne_m1 (by omega)), nI_clamp (by omega), show (6 * x + i) / 6 = x by omega, show (6 * x + i) % 6 = i by omega]
theorem rep_cong {F : Fam} {dd ee : Nat → Int32} : ∀ {n : Nat}, (∀ j, j < n → dd j = ee j) → rep F dd n = rep F ee n
  | 0, _ => rfl
  | n + 1, h => by rw [rep, rep, rep_cong (fun j hj => h j (by omega)), h n (by omega)]
theorem rep_Bd {F : Fam} (hF : FamOk F) {dd : Nat → Int32} {n : Nat} (h : okD F dd n) : ∀ j, j ≤ n → Bd j (rep F dd j)
  | 0, _ => ⟨Nat.le_refl _, Nat.zero_le _, Nat.zero_le _, Nat.le_refl _, fun _ => Nat.le_refl _⟩
  | j + 1, hj => by
    have ih := rep_Bd hF h j (by omega)
    have hq := hF.q
    have hp := hF.p
    have hn := h.1
    show Bd (j + 1) (ena F (rep F dd j) (dd j))
    rcases h.2 j (by omega) with e | ⟨x, i, hx, hi, e, -⟩
    · rw [e, ena_day]; exact day_Bd ih
    · rw [e, ena_say F _ (by omega) (by omega)]; exact utt_Bd hF ih (by omega) hx hi
theorem okD.cong {F : Fam} {dd ee : Nat → Int32} {n : Nat} (h : okD F dd n) (he : ∀ j, j < n → dd j = ee j) : okD F ee n := by
  refine ⟨h.1, fun j hj => ?_⟩
  rw [← he j hj, ← rep_cong (fun i hi => he i (by omega))]
  exact h.2 j hj
theorem okD.le {F : Fam} {dd : Nat → Int32} {n k : Nat} (h : okD F dd n) (hk : k ≤ n) : okD F dd k := ⟨by have := h.1; omega, fun j hj => h.2 j (by omega)⟩
/-- a deed that may be done now -/
def okV (F : Fam) (d : Dyn) (v : Int32) : Prop := v = -1 ∨ ∃ x i, x < fP F ∧ i < fQ F ∧ v = nI (6 * x + i) ∧ dV d = 0
section PD
variable {F : Fam} {d : Dyn} {c m : Mm} {n : Nat}
theorem c_enact (hF : FamOk F) (hc : FamC F c) (hd : DynC d c) (hb : Bd n d) (hn : n ≤ 60) {v : Int32} (hv : okV F d v) : ∃ c', fX2_enact_23 v c = some c' ∧ DynC (ena F d v) c' ∧ FrC c c' := by
  unfold fX2_enact_23 fX2_enact_23_E
  simp only [nm]
  rcases hv with e | ⟨x, i, hx, hi, e, hz⟩
  · rw [e, if_pos rfl, bo_id, ena_day]
    obtain ⟨c', h1, h2, h3⟩ := c_ease hd hb hn
    exact ⟨c', h1, h2, h3⟩
  · have hq := hF.q
    have hp := hF.p
    have e6 : (6 : Int32) = nI 6 := rfl
    rw [e, if_neg (nI_ne_m1 (by omega)), e6, pk_rem (by omega) (by decide) (by decide), pk_div (by omega) (by decide) (by decide), show (6 * x + i) / 6 = x by omega, show (6 * x + i) % 6 = i by omega, bo_v (c_isOne hF hc (nI x)), if_10, if_pos (inb_nI hx (by omega)), bo_v (c_isSaying hF hc (nI i)), if_10, if_pos (inb_nI hi (by omega)), bo_id, ena_say F d (by omega) (by omega)]
    exact c_utter hF hc hd hb hn hx hi hz
theorem c_fill28 (v : Int32) (w : Mm) : fJ7_fill_53178_28 v w = some (sF w 28 (fun t => if t < 6 then v else w.1 28 t)) := by
  unfold fJ7_fill_53178_28 fJ7_fill_53178_28_E
  have h := lp_i (f := fJ7_fill_53178_28_5 v 6) (step := fun j w => sA w 28 (0 + j) v) (fin := some) (fun _ _ => True) 6 (fun n j w hj _ => ⟨by
    rw [fJ7_fill_53178_28_5, if_neg (show ¬ (6 : Int32) ≤ nI j from nI_ge hj (by decide)), gd_t (inb_nI hj (by decide)), nI_clamp (by omega), nI_1, Nat.zero_add]; rfl, trivial⟩) (fun n w _ => by rw [fJ7_fill_53178_28_5, if_pos (by decide)]) 6 0 FU w rfl (FU_lt (by decide)) trivial
  have e : (0 : Int32) = nI 0 := rfl
  rw [e, h, itr_fill]
  congr 2
  funext t
  by_cases h : t < 6
  · rw [if_pos h, if_pos (by omega)]
  · rw [if_neg h, if_neg (by omega)]
/-- what the class changes when it goes back -/
def FrB (c c' : Mm) : Prop := (∀ p, p ≠ 23 → p ≠ 28 → c'.1 p = c.1 p) ∧ (∀ k, k ≠ 7 → k ≠ 8 → k ≠ 9 → k ≠ 11 → c'.1 23 k = c.1 23 k) ∧ c'.2 = c.2
theorem FamC.frB {c c' : Mm} (h : FamC F c) (f : FrB c c') : FamC F c' := by
  obtain ⟨h1, h2, h3, h4, h5⟩ := h
  obtain ⟨f1, f2, -⟩ := f
  refine ⟨by rw [f2 0 (by decide) (by decide) (by decide) (by decide)]; exact h1, by rw [f2 2 (by decide) (by decide) (by decide) (by decide)]; exact h2, by rw [f2 6 (by decide) (by decide) (by decide) (by decide)]; exact h3, fun x hx => by rw [f1 24 (by decide) (by decide)]; exact h4 x hx, fun i hi => ?_⟩
  rw [f1 25 (by decide) (by decide), f1 26 (by decide) (by decide), f1 27 (by decide) (by decide)]
  exact h5 i hi
theorem FrB.rfl' (c : Mm) : FrB c c := ⟨fun _ _ _ => rfl, fun _ _ _ _ _ => rfl, rfl⟩
theorem FrB.trans {a b c : Mm} (h : FrB a b) (h2 : FrB b c) : FrB a c := ⟨fun p h1 h3 => (h2.1 p h1 h3).trans (h.1 p h1 h3), fun k h1 h3 h4 h5 => (h2.2.1 k h1 h3 h4 h5).trans (h.2.1 k h1 h3 h4 h5), h2.2.2.trans h.2.2⟩
theorem FrC.frB {c c' : Mm} (h : FrC c c') : FrB c c' := ⟨h.1, fun k h1 h2 h3 _ => h.2.1 k h1 h2 h3, h.2.2⟩
/-- as without any deeds -/
theorem c_anew (c : Mm) : ∃ c', fX2_startAnew_23 c = some c' ∧ DynC dyn0 c' ∧ c'.1 23 11 = nI 0 ∧ FrB c c' := by
  unfold fX2_startAnew_23 fX2_startAnew_23_E
  simp only [nm]
  rw [bo_v (c_fill28 0 _)]
  generalize hw : sA (sF (sA (sA (sA c 23 7 0) 23 8 0) 23 9 (-9)) 28 (fun t => if t < 6 then 0 else (sA (sA (sA c 23 7 0) 23 8 0) 23 9 (-9)).1 28 t)) 23 11 0 = w
  have p1 : ∀ p, p ≠ 23 → p ≠ 28 → w.1 p = c.1 p := fun p h1 h2 => by rw [← hw, sA_ne h1, sF_ne h2, sA_ne h1, sA_ne h1, sA_ne h1]
  have p2 : ∀ k, k ≠ 7 → k ≠ 8 → k ≠ 9 → k ≠ 11 → w.1 23 k = c.1 23 k := fun k h1 h2 h3 h4 => by rw [← hw, sA_eq, upd_ne h4, sF_ne (by decide), sA_eq, upd_ne h3, sA_eq, upd_ne h2, sA_eq, upd_ne h1]
  have p3 : w.2 = c.2 := by rw [← hw]; rfl
  refine ⟨w, rfl, ⟨?_, ?_, ?_, fun i hi => ?_⟩, ?_, p1, p2, p3⟩
  · rw [← hw, sA_eq, upd_ne (by decide), sF_ne (by decide), sA_eq, upd_ne (by decide), sA_eq, upd_ne (by decide), sA_eq, upd_eq]; rfl
  · rw [← hw, sA_eq, upd_ne (by decide), sF_ne (by decide), sA_eq, upd_ne (by decide), sA_eq, upd_eq]; rfl
  · rw [← hw, sA_eq, upd_ne (by decide), sF_ne (by decide), sA_eq, upd_eq]; rfl
  · rw [← hw, sA_ne (by decide), sF_eq, if_pos hi]; rfl
  · rw [← hw, sA_eq, upd_eq]; rfl
theorem c_back_loop (hF : FamOk F) {dd : Nat → Int32} (ho : okD F dd n) : ∀ k j N (w : Mm), j + k = n → k < N → FamC F w → w.1 29 = dd → w.1 23 11 = nI j → DynC (rep F dd j) w → ∃ w', fX2_goBackTo_23_6 (nI n) N (nI j) w = some w' ∧ DynC (rep F dd n) w' ∧ w'.1 23 11 = nI n ∧ FrB w w' := by
  have hn := ho.1
  intro k
  induction k with
  | zero =>
    intro j N w hj hN hc h29 hz hd
    obtain ⟨N, rfl⟩ : ∃ t, N = t + 1 := ⟨N - 1, by omega⟩
    have : j = n := by omega
    subst this
    exact ⟨w, by rw [fX2_goBackTo_23_6, if_pos (nI_le (Nat.le_refl _) (by omega))], hd, hz, FrB.rfl' w⟩
  | succ k ih =>
    intro j N w hj hN hc h29 hz hd
    obtain ⟨N, rfl⟩ : ∃ t, N = t + 1 := ⟨N - 1, by omega⟩
    have hb := rep_Bd hF ho j (by omega)
    obtain ⟨w1, a1, a2, a3⟩ := c_enact hF hc hd hb (by omega) (v := dd j) (ho.2 j (by omega))
    have z1 : w1.1 23 11 = nI j := by rw [a3.2.1 11 (by decide) (by decide) (by decide)]; exact hz
    rw [fX2_goBackTo_23_6, if_neg (nI_ge (by omega) (by omega)), if_neg (show ¬ (40 : Int32) ≤ nI j from nI_ge (show j < 40 by omega) (by decide)), gd_t (inb_nI (by omega) (by decide)), nI_clamp (by omega), h29, bo_v a1, z1, nI_1]
    simp only [nm]
    generalize hw : sA w1 23 11 (nI (j + 1)) = w2
    have p1 : ∀ p, p ≠ 23 → w2.1 p = w1.1 p := fun p hp => by rw [← hw, sA_ne hp]
    have p2 : ∀ k, k ≠ 11 → w2.1 23 k = w1.1 23 k := fun k h => by rw [← hw, sA_eq, upd_ne h]
    have f2 : FrB w1 w2 := ⟨fun p h1 _ => p1 p h1, fun k _ _ _ h4 => p2 k h4, by rw [← hw]; rfl⟩
    have f1 : FrB w w2 := a3.frB.trans f2
    have h29' : w2.1 29 = dd := by rw [f1.1 29 (by decide) (by decide)]; exact h29
    have hd2 : DynC (rep F dd (j + 1)) w2 := by
      obtain ⟨h1, h2, h3, h4⟩ := a2
      exact ⟨by rw [p2 7 (by decide)]; exact h1, by rw [p2 8 (by decide)]; exact h2, by rw [p2 9 (by decide)]; exact h3, fun i hi => by rw [p1 28 (by decide)]; exact h4 i hi⟩
    obtain ⟨w3, b1, b2, b3, b4⟩ := ih (j + 1) N w2 (by omega) (by omega) (hc.frB f1) h29' (by rw [← hw, sA_eq, upd_eq]) hd2
    exact ⟨w3, b1, b2, b3, f1.trans b4⟩
theorem c_goBack (hF : FamOk F) (hc : FamC F c) (ho : okD F (c.1 29) n) : ∃ c', fX2_goBackTo_23 (nI n) c = some c' ∧ DynC (rep F (c.1 29) n) c' ∧ c'.1 23 11 = nI n ∧ FrB c c' := by
  unfold fX2_goBackTo_23 fX2_goBackTo_23_E
  obtain ⟨w, a1, a2, a3, a4⟩ := c_anew c
  rw [bo_v a1]
  obtain ⟨w', b1, b2, b3, b4⟩ := c_back_loop hF ho n 0 FU w (by omega) (FU_lt (by have := ho.1; omega)) (hc.frB a4) (a4.1 29 (by decide) (by decide)) a3 a2
  exact ⟨w', b1, b2, b3, a4.trans b4⟩
theorem c_record (hF : FamOk F) (hc : FamC F c) (ho : okD F (c.1 29) n) (hz : c.1 23 11 = nI n) (hd : DynC (rep F (c.1 29) n) c) (hn : n < 40) {v : Int32} (hv : okV F (rep F (c.1 29) n) v) : ∃ c', fX2_record_23 v c = some c' ∧ c'.1 29 = upd (c.1 29) n v ∧ c'.1 23 11 = nI (n + 1) ∧ DynC (rep F (upd (c.1 29) n v) (n + 1)) c' ∧ okD F (upd (c.1 29) n v) (n + 1) ∧ FamC F c' ∧ (∀ p, p ≠ 23 → p ≠ 28 → p ≠ 29 → c'.1 p = c.1 p) ∧ c'.2 = c.2 := by
  unfold fX2_record_23 fX2_record_23_E
  simp only [nm]
  rw [hz, if_neg (show ¬ (40 : Int32) ≤ nI n from nI_ge hn (by decide)), gd_t (inb_nI hn (by decide)), nI_clamp (by omega)]
  generalize hw1 : sA c 29 n v = w1
  have q23 : w1.1 23 = c.1 23 := by rw [← hw1, sA_ne (by decide)]
  rw [q23, hz, nI_1]
  generalize hw : sA w1 23 11 (nI (n + 1)) = w
  have p1 : ∀ p, p ≠ 23 → p ≠ 29 → w.1 p = c.1 p := fun p h1 h2 => by rw [← hw, sA_ne h1, ← hw1, sA_ne h2]
  have p2 : ∀ k, k ≠ 11 → w.1 23 k = c.1 23 k := fun k h => by rw [← hw, sA_eq, upd_ne h, q23]
  have p3 : w.1 29 = upd (c.1 29) n v := by rw [← hw, sA_ne (by decide), ← hw1, sA_eq]
  have p4 : w.1 23 11 = nI (n + 1) := by rw [← hw, sA_eq, upd_eq]
  have p5 : w.2 = c.2 := by rw [← hw, ← hw1]; rfl
  have hc' : FamC F w := by
    obtain ⟨h1, h2, h3, h4, h5⟩ := hc
    refine ⟨by rw [p2 0 (by decide)]; exact h1, by rw [p2 2 (by decide)]; exact h2, by rw [p2 6 (by decide)]; exact h3, fun x hx => by rw [p1 24 (by decide) (by decide)]; exact h4 x hx, fun i hi => ?_⟩
    rw [p1 25 (by decide) (by decide), p1 26 (by decide) (by decide), p1 27 (by decide) (by decide)]
    exact h5 i hi
  have hd' : DynC (rep F (c.1 29) n) w := by
    obtain ⟨h1, h2, h3, h4⟩ := hd
    exact ⟨by rw [p2 7 (by decide)]; exact h1, by rw [p2 8 (by decide)]; exact h2, by rw [p2 9 (by decide)]; exact h3, fun i hi => by rw [p1 28 (by decide) (by decide)]; exact h4 i hi⟩
  have er : rep F (upd (c.1 29) n v) n = rep F (c.1 29) n := rep_cong (fun j hj => upd_ne (by omega))
  obtain ⟨w2, b1, b2, b3⟩ := c_enact hF hc' hd' (rep_Bd hF ho n (Nat.le_refl _)) (by omega) hv
  rw [bo_v b1]
  refine ⟨w2, rfl, ?_, ?_, ?_, ?_, hc'.fr b3, fun p h1 h2 h3 => by rw [b3.1 p h1 h2, p1 p h1 h3], b3.2.2.trans p5⟩
  · rw [b3.1 29 (by decide) (by decide)]; exact p3
  · rw [b3.2.1 11 (by decide) (by decide) (by decide)]; exact p4
  · show DynC (ena F (rep F (upd (c.1 29) n v) n) (upd (c.1 29) n v n)) w2
    rw [er, upd_eq]
    exact b2
  · refine ⟨by omega, fun j hj => ?_⟩
    by_cases e : j = n
    · subst e
      rw [upd_eq, er]
      exact hv
    · rw [upd_ne e, rep_cong (ee := c.1 29) (fun i hi => upd_ne (by omega))]
      exact ho.2 j (by omega)
/-! the reference's deeds -/
theorem m_keepPast (hz : m.1 1 0 = nI n) (hn : n < 40) : fX8_keepPast m = some (sA (sF m 1 (fun t => if 11 + 10 * n ≤ t ∧ t < 11 + 10 * n + 10 then m.1 1 (1 + (t - (11 + 10 * n))) else m.1 1 t)) 1 0 (nI (n + 1))) := by
  unfold fX8_keepPast fX8_keepPast_E
  have e10 : (10 : Int32) = nI 10 := rfl
  have e11 : (11 : Int32) = nI 11 := rfl
  have h := lp_i (f := fX8_keepPast_2) (step := fun j w => sA w 1 (11 + 10 * n + j) (w.1 1 (1 + j))) (fin := fun w => some (sA w 1 0 (w.1 1 0 + 1))) (fun _ w => w.1 1 0 = nI n) 10 (fun N j w hj hw => ⟨by
    rw [fX8_keepPast_2, if_neg (show ¬ (10 : Int32) ≤ nI j from nI_ge hj (by decide)), hw, nI_lit1, e10, e11, pk_mul, nI_add, nI_add, nI_add, gd_t (inb_nI (by omega) (by decide)), gd_t (inb_nI (by omega) (by decide)), nI_clamp (show 11 + 10 * n + j < 2 ^ 31 by omega), nI_clamp (show 1 + j < 2 ^ 31 by omega), nI_add]; rfl, by rw [sA_eq, upd_ne (by omega)]; exact hw⟩) (fun N w _ => by rw [fX8_keepPast_2, if_pos (by decide)]; rfl) 10 0 FU m rfl (FU_lt (by decide)) hz
  have e : (0 : Int32) = nI 0 := rfl
  rw [e, h, itr_copy 1 1 (11 + 10 * n) 10 (by omega) 10 0 m (by omega), sF_eq, if_neg (by omega), hz, nI_1]
  rfl
theorem DynM.cg {b b' : Nat} {r r' : Nat → Int32} (h : DynM b d r) (he : ∀ t, t < 10 → r' (b' + 1 + t) = r (b + 1 + t)) : DynM b' d r' := by
  obtain ⟨h1, h2, h3, h4, h5⟩ := h
  refine ⟨?_, ?_, ?_, ?_, fun i hi => ?_⟩
  · have := he 0 (by decide); rw [show b' + 1 = b' + 1 + 0 by omega, this]; exact h1
  · have := he 1 (by decide); rw [show b' + 2 = b' + 1 + 1 by omega, this]; exact h2
  · have := he 2 (by decide); rw [show b' + 3 = b' + 1 + 2 by omega, this]; exact h3
  · have := he 3 (by decide); rw [show b' + 4 = b' + 1 + 3 by omega, this]; exact h4
  · have := he (4 + i) (by omega); rw [show b' + 5 + i = b' + 1 + (4 + i) by omega, this, show b + 1 + (4 + i) = b + 5 + i by omega]; exact h5 i hi
theorem BlockM.cg {dd : Nat → Int32} {b b' : Nat} {r r' : Nat → Int32} (hn : n ≤ 40) (h : BlockM F dd n b r) (he : ∀ t, t < 411 → r' (b' + t) = r (b + t)) : BlockM F dd n b' r' := by
  obtain ⟨h1, h2, h3⟩ := h
  refine ⟨by have := he 0 (by decide); rw [show b' = b' + 0 by omega, this]; exact h1, h2.cg (fun t ht => ?_), fun j hj => (h3 j hj).cg (fun t ht => ?_)⟩
  · have := he (1 + t) (by omega)
    rw [show b' + 1 + t = b' + (1 + t) by omega, this, show b + 1 + t = b + (1 + t) by omega]
  · have := he (10 + 10 * j + 1 + t) (by omega)
    rw [show b' + 10 + 10 * j + 1 + t = b' + (10 + 10 * j + 1 + t) by omega, this, show b + 10 + 10 * j + 1 + t = b + (10 + 10 * j + 1 + t) by omega]
theorem BlockM.congD {dd ee : Nat → Int32} {b : Nat} {r : Nat → Int32} (h : BlockM F dd n b r) (he : ∀ j, j < n → dd j = ee j) : BlockM F ee n b r := by
  obtain ⟨h1, h2, h3⟩ := h
  refine ⟨h1, by rw [← rep_cong he]; exact h2, fun j hj => ?_⟩
  rw [← rep_cong (fun i hi => he i (by omega))]
  exact h3 j hj
/-- the block after one deed more -/
theorem BlockM.step {dd : Nat → Int32} {r r' : Nat → Int32} {v : Int32} (hn : n < 40) (h : BlockM F dd n 0 r) (h0 : r' 0 = nI (n + 1)) (hp : ∀ t, 11 ≤ t → t < 411 → r' t = if 11 + 10 * n ≤ t ∧ t < 11 + 10 * n + 10 then r (1 + (t - (11 + 10 * n))) else r t) (hd : DynM 0 (ena F (rep F dd n) v) r') : BlockM F (upd dd n v) (n + 1) 0 r' := by
  obtain ⟨h1, h2, h3⟩ := h
  have er : rep F (upd dd n v) n = rep F dd n := rep_cong (fun j hj => upd_ne (by omega))
  refine ⟨h0, ?_, fun j hj => ?_⟩
  · show DynM 0 (ena F (rep F (upd dd n v) n) (upd dd n v n)) r'
    rw [er, upd_eq]
    exact hd
  · rw [rep_cong (ee := dd) (fun i hi => upd_ne (by omega))]
    by_cases e : j = n
    · subst e
      refine h2.cg (fun t ht => ?_)
      rw [hp _ (by omega) (by omega), if_pos (by omega)]
      congr 1
      omega
    · refine (h3 j (by omega)).cg (fun t ht => ?_)
      rw [hp _ (by omega) (by omega), if_neg (by omega)]
theorem RelKept.cg {c c' m m' : Mm} (h : RelKept F c m) (h19 : c'.1 19 = c.1 19) (hc : ∀ k, k < 3 → c'.1 (20 + k) = c.1 (20 + k)) (hm : ∀ t, 411 ≤ t → t < 1644 → m'.1 1 t = m.1 1 t) : RelKept F c' m' := by
  intro k hk
  rw [h19, hc k hk, hm _ (by omega) (by omega)]
  rcases h k hk with h | ⟨n, h1, h2, h3⟩
  · exact Or.inl h
  · exact Or.inr ⟨n, h1, h2, h3.cg h2.1 (fun t ht => hm _ (by omega) (by omega))⟩
end PD

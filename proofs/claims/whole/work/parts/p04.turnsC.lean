/-! PURE: the class's turns -/
theorem op3 : ∀ t, t < 8 → (3 : Int32) - nI (pc6 t) = nI (opn t) := by decide +kernel
theorem FamOk.q {F : Fam} (h : FamOk F) : fQ F ≤ 6 := h.2.1
theorem FamOk.p {F : Fam} (h : FamOk F) : fP F ≤ 4 := h.1
section PC
variable {F : Fam} {d : Dyn} {c : Mm} {n : Nat}
theorem c_open (hd : DynC d c) (hb : Bd n d) : fX2_openTopics_23 c = some (nI (opn (dT d))) := by
  unfold fX2_openTopics_23 fX2_openTopics_23_E
  have ht : dT d ≤ 7 := hb.2.1
  rw [hd.2.1, bo_v (bc_eq (dT d) (by omega)), op3 _ (by omega)]
theorem near_le (hF : FamOk F) (hb : Bd n d) {i : Nat} (hi : i < fQ F) : near F d i ≤ 2 * (9 + n) + 9 + 3 := by
  have h1 := nr_le (k := fK F i) (t := fT F i) (s := dN d i) (o := opn (dT d))
  have h2 := (hF.2.2.2.2.1 i hi).2.1
  have h3 := hb.2.2.2.2 i
  have h4 := opn_le (dT d)
  unfold near
  omega
theorem c_near (hF : FamOk F) (hc : FamC F c) (hd : DynC d c) (hb : Bd n d) (hn : n ≤ 60) {i : Nat} (hi : i < fQ F) : fX2_nearNow_23 (nI i) c = some (nI (near F d i)) := by
  unfold fX2_nearNow_23 fX2_nearNow_23_E
  have hq := hF.q
  obtain ⟨k1, k2, k3⟩ := hF.2.2.2.2.1 i hi
  obtain ⟨c1, c2, c3⟩ := hc.2.2.2.2 i hi
  have h3 := hb.2.2.2.2 i
  have h4 := opn_le (dT d)
  rw [gd_t (inb_nI (by omega) (by decide)), bo_v (c_open hd hb), nI_clamp (by omega), c1, c2, hd.2.2.2 i (by omega), bo_v (cnr (by omega) (by omega) (by omega) (by omega))]
  rfl
theorem c_bears (hF : FamOk F) (hc : FamC F c) (hd : DynC d c) (hb : Bd n d) (hn : n ≤ 60) {x i : Nat} (hx : x < fP F) (hi : i < fQ F) : fX2_bearsSaying_23 (nI x) (nI i) c = some (if dS d + near F d i ≤ fB F x then 1 else 0) := by
  unfold fX2_bearsSaying_23 fX2_bearsSaying_23_E
  have hp := hF.p
  have hq := hF.q
  have h1 := near_le hF hb hi
  have h2 := hb.1
  have h3 := hF.2.2.2.1 x hx
  rw [bo_v (c_near hF hc hd hb hn hi), gd_t (inb_nI (by omega) (by decide)), nI_clamp (by omega), hc.2.2.2.1 x hx, hd.1, nI_add]
  by_cases h : dS d + near F d i ≤ fB F x
  · rw [if_pos h, if_neg]
    rw [nI_ltI (by omega) (by omega)]
    omega
  · rw [if_neg h, if_pos]
    rw [nI_ltI (by omega) (by omega)]
    omega
theorem c_ease (hd : DynC d c) (hb : Bd n d) (hn : n ≤ 60) : ∃ c', fX2_ease_23 c = some c' ∧ DynC (eas d) c' ∧ FrC c c' := by
  unfold fX2_ease_23 fX2_ease_23_E
  refine ⟨_, rfl, ⟨?_, hd.2.1, hd.2.2.1, hd.2.2.2⟩, ⟨fun p h1 h2 => sA_ne h1, fun k h1 h2 h3 => ?_, rfl⟩⟩
  · have h2 := hb.1
    rw [sA_eq, upd_eq, hd.1]
    show _ = nI (dS d - 1)
    by_cases h : dS d = 0
    · rw [h]; decide
    · rw [nI_lit1, pk_sub (by omega)]
      by_cases h' : dS d = 1
      · rw [h']; decide
      · rw [if_pos]
        rw [nI_lit0, nI_ltI (by decide) (by omega)]
        omega
  · rw [sA_eq, upd_ne h1]
theorem or7 : ∀ a, a < 8 → ∀ b, b < 8 → nI a ||| nI b = nI (a ||| b) ∧ a ||| b ≤ 7 := by decide +kernel
theorem utt_Bd (hF : FamOk F) (hb : Bd n d) (hn : n ≤ 60) {x i : Nat} (hx : x < fP F) (hi : i < fQ F) : Bd (n + 1) (utt F d x i) := by
  have h1 := near_le hF hb hi
  have hp := hF.p
  have h0 := (hF.2.2.2.2.1 i hi).2.2
  obtain ⟨b1, b2, b3, b4, b5⟩ := hb
  refine ⟨?_, ?_, ?_, ?_, fun j => ?_⟩
  · show dS d + near F d i ≤ 300 * (n + 1)
    omega
  · exact (or7 (dT d) (by omega) (fO F i) (by omega)).2
  · show (if fB F x < dS d + near F d i then x + 1 else 0) ≤ 4
    split <;> omega
  · show dD d ≤ n + 1
    omega
  · show (if j = i then dN d j + 1 else dN d j) ≤ n + 1
    have := b5 j
    split <;> omega
theorem eas_Bd (hb : Bd n d) : Bd n (eas d) := by
  obtain ⟨b1, b2, b3, b4, b5⟩ := hb
  exact ⟨by show dS d - 1 ≤ _; omega, b2, b3, b4, b5⟩
theorem day_Bd (hb : Bd n d) : Bd (n + 1) (dayd d) := by
  obtain ⟨b1, b2, b3, b4, b5⟩ := hb
  exact ⟨by show dS d - 1 ≤ _; omega, b2, b3, by show dD d + 1 ≤ _; omega, fun i => by have := b5 i; show dN d i ≤ _; omega⟩
theorem Bd.up {m : Nat} (hb : Bd n d) (h : n ≤ m) : Bd m d := by
  obtain ⟨b1, b2, b3, b4, b5⟩ := hb
  exact ⟨by omega, b2, b3, by omega, fun i => by have := b5 i; omega⟩
theorem c_utter (hF : FamOk F) (hc : FamC F c) (hd : DynC d c) (hb : Bd n d) (hn : n ≤ 60) {x i : Nat} (hx : x < fP F) (hi : i < fQ F) (hv : dV d = 0) : ∃ c', fX2_utter_23 (nI x) (nI i) c = some c' ∧ DynC (utt F d x i) c' ∧ FrC c c' := by
  unfold fX2_utter_23 fX2_utter_23_E
  have hp := hF.p
  have hq := hF.q
  have h1 := near_le hF hb hi
  have h2 := hb.1
  have h3 := hF.2.2.2.1 x hx
  have h0 := (hF.2.2.2.2.1 i hi).2.2
  have ht := hb.2.1
  have hs := hb.2.2.2.2 i
  have eO : c.1 27 i = nI (fO F i) := (hc.2.2.2.2 i hi).2.2
  have eB : c.1 24 x = nI (fB F x) := hc.2.2.2.1 x hx
  have eN : c.1 28 i = nI (dN d i) := hd.2.2.2 i (by omega)
  have eV : c.1 23 9 = -9 := by rw [hd.2.2.1, hv]; rfl
  rw [bo_v (c_near hF hc hd hb hn hi)]
  simp only [nm]
  rw [gd_t (inb_nI (by omega) (by decide)), gd_t (inb_nI (by omega) (by decide)), nI_clamp (by omega), nI_clamp (by omega)]
  generalize hw4 : sA c 23 7 (c.1 23 7 + nI (near F d i)) = w4
  have a7 : w4.1 23 7 = nI (dS d + near F d i) := by rw [← hw4, sA_eq, upd_eq, hd.1, nI_add]
  have ak : ∀ k, k ≠ 7 → w4.1 23 k = c.1 23 k := fun k h => by rw [← hw4, sA_eq, upd_ne h]
  have ap : ∀ p, p ≠ 23 → w4.1 p = c.1 p := fun p h => by rw [← hw4, sA_ne h]
  have a2 : w4.2 = c.2 := by rw [← hw4]; rfl
  generalize hw6 : sA w4 23 8 (w4.1 23 8 ||| w4.1 27 i) = w6
  have b8 : w6.1 23 8 = nI (dT d ||| fO F i) := by rw [← hw6, sA_eq, upd_eq, ak 8 (by decide), ap 27 (by decide), hd.2.1, eO, (or7 _ (by omega) _ (by omega)).1]
  have bk : ∀ k, k ≠ 8 → w6.1 23 k = w4.1 23 k := fun k h => by rw [← hw6, sA_eq, upd_ne h]
  have bp : ∀ p, p ≠ 23 → w6.1 p = w4.1 p := fun p h => by rw [← hw6, sA_ne h]
  have b2 : w6.2 = c.2 := by rw [← hw6]; exact a2
  generalize hw7 : sA w6 28 i (w6.1 28 i + 1) = w7
  have ci : ∀ j, j < 6 → w7.1 28 j = nI (if j = i then dN d j + 1 else dN d j) := fun j hj => by
    rw [← hw7, sA_eq]
    by_cases e : j = i
    · subst e
      rw [upd_eq, if_pos rfl, bp 28 (by decide), ap 28 (by decide), eN, nI_1]
    · rw [upd_ne e, if_neg e, bp 28 (by decide), ap 28 (by decide)]
      exact hd.2.2.2 j hj
  have cp : ∀ p, p ≠ 28 → w7.1 p = w6.1 p := fun p h => by rw [← hw7, sA_ne h]
  have c2 : w7.2 = c.2 := by rw [← hw7]; exact b2
  have d7 : w7.1 23 7 = nI (dS d + near F d i) := by rw [cp 23 (by decide), bk 7 (by decide)]; exact a7
  have d24 : w7.1 24 x = nI (fB F x) := by rw [cp 24 (by decide), bp 24 (by decide), ap 24 (by decide)]; exact eB
  have d9 : w7.1 23 9 = -9 := by rw [cp 23 (by decide), bk 9 (by decide), ak 9 (by decide)]; exact eV
  have d8 : w7.1 23 8 = nI (dT d ||| fO F i) := by rw [cp 23 (by decide)]; exact b8
  have fr : FrC c w7 := ⟨fun p h1 h2 => by rw [cp p h2, bp p h1, ap p h1], fun k h1 h2 h3 => by rw [cp 23 (by decide), bk k h2, ak k h1], c2⟩
  rw [d7, d24]
  by_cases h : dS d + near F d i ≤ fB F x
  · rw [if_pos ((nI_leI (by omega) (by omega)).mpr h)]
    refine ⟨w7, rfl, ⟨d7, d8, ?_, ci⟩, fr⟩
    rw [d9]
    show _ = ovI (if fB F x < dS d + near F d i then x + 1 else 0)
    rw [if_neg (by omega)]
    rfl
  · rw [if_neg (fun q => h ((nI_leI (by omega) (by omega)).mp q))]
    refine ⟨sA w7 23 9 (nI x), rfl, ⟨?_, ?_, ?_, ?_⟩, fr.trans ⟨fun p h1 h2 => sA_ne h1, fun k h1 h2 h3 => by rw [sA_eq, upd_ne h3], rfl⟩⟩
    · rw [sA_eq, upd_ne (by decide)]; exact d7
    · rw [sA_eq, upd_ne (by decide)]; exact d8
    · rw [sA_eq, upd_eq]
      show _ = ovI (if fB F x < dS d + near F d i then x + 1 else 0)
      rw [if_pos (by omega)]
      rfl
    · intro j hj
      rw [sA_ne (by decide)]
      exact ci j hj
end PC

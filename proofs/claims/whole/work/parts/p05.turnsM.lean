/-! PURE: the reference's turns, at the base b of its row -/
section PM
variable {F : Fam} {d : Dyn} {m : Mm} {n b : Nat}
theorem m_near (hF : FamOk F) (hm : FamM F m) (hd : DynM b d (m.1 1)) (hb : Bd n d) (hn : n ≤ 60) (hbb : b ≤ 1644) {i : Nat} (hi : i < fQ F) : fX8_nearOf (nI b) (nI i) m = some (nI (near F d i)) := by
  unfold fX8_nearOf fX8_nearOf_E
  have hq := hF.q
  obtain ⟨k1, k2, k3⟩ := hF.2.2.2.2.1 i hi
  obtain ⟨c1, c2, c3⟩ := hm.2.2.2.2 i hi
  have h3 := hb.2.2.2.2 i
  have h4 := opn_le (dT d)
  have ht := hb.2.1
  rw [nI_lit5, nI_lit3, nI_add, nI_add, nI_add, gd_t (inb_nI (by omega) (by decide)), gd_t (inb_nI (by omega) (by decide)), gd_t (inb_nI (by omega) (by decide)), nI_clamp (show i < 2 ^ 31 by omega), nI_clamp (show b + 3 < 2 ^ 31 by omega), nI_clamp (show b + 5 + i < 2 ^ 31 by omega), hd.2.2.1, bo_v (op_eq _ (by omega)), c1, c2, hd.2.2.2.2 i (by omega), bo_v (mnr (by omega) (by omega) (by omega) (by omega))]
  rfl
theorem m_bears (hF : FamOk F) (hm : FamM F m) (hd : DynM 0 d (m.1 1)) (hb : Bd n d) (hn : n ≤ 60) {x i : Nat} (hx : x < fP F) (hi : i < fQ F) : fX8_bearsIt (nI x) (nI i) m = some (if dS d + near F d i ≤ fB F x then 1 else 0) := by
  unfold fX8_bearsIt fX8_bearsIt_E
  have hp := hF.p
  have hq := hF.q
  have h1 := near_le hF hb hi
  have h2 := hb.1
  have h3 := hF.2.2.2.1 x hx
  have e2 : m.1 1 2 = nI (dS d) := by have := hd.2.1; exact this
  rw [nI_lit0, bo_v (m_near hF hm hd hb hn (by decide) hi), gd_t (inb_nI (by omega) (by decide)), nI_clamp (by omega), hm.2.2.2.1 x hx, e2, nI_add]
  by_cases h : dS d + near F d i ≤ fB F x
  · rw [if_pos h, if_neg]
    rw [nI_ltI (by omega) (by omega)]
    omega
  · rw [if_neg h, if_pos]
    rw [nI_ltI (by omega) (by omega)]
    omega
theorem m_eases (hd : DynM b d (m.1 1)) (hb : Bd n d) (hn : n ≤ 60) (hbb : b ≤ 1644) : ∃ m', fX8_eases (nI b) m = some m' ∧ DynM b (eas d) (m'.1 1) ∧ FrM b m m' := by
  unfold fX8_eases fX8_eases_E
  have h2 := hb.1
  rw [nI_lit2, nI_add]
  simp only [nm]
  rw [gd_t (inb_nI (by omega) (by decide)), gd_t (inb_nI (by omega) (by decide)), nI_clamp (show b + 2 < 2 ^ 31 by omega), hd.2.1]
  have key : ∀ v : Int32, v = nI (dS d - 1) → ∃ m', (gd (inb (nI (b + 2)) 1655 = true) (some (sA m 1 (nI (b + 2)).toNatClampNeg v))) = some m' ∧ DynM b (eas d) (m'.1 1) ∧ FrM b m m' := by
    intro v hv
    rw [gd_t (inb_nI (by omega) (by decide)), nI_clamp (show b + 2 < 2 ^ 31 by omega)]
    refine ⟨_, rfl, ⟨?_, ?_, ?_, ?_, fun i hi => ?_⟩, ⟨fun p h => sA_ne h, fun k h => ?_, rfl⟩⟩
    · rw [sA_eq, upd_ne (by omega)]; exact hd.1
    · rw [sA_eq, upd_eq]; exact hv
    · rw [sA_eq, upd_ne (by omega)]; exact hd.2.2.1
    · rw [sA_eq, upd_ne (by omega)]; exact hd.2.2.2.1
    · rw [sA_eq, upd_ne (by omega)]; exact hd.2.2.2.2 i hi
    · rw [sA_eq, upd_ne (by omega)]
  by_cases h : dS d = 0
  · rw [if_pos (by rw [h]; decide)]
    exact key _ (by rw [h]; decide)
  · rw [if_neg (nI_nle (by omega) (by omega))]
    exact key _ (by rw [nI_lit1, pk_sub (by omega)])
theorem m_says (hF : FamOk F) (hm : FamM F m) (hd : DynM b d (m.1 1)) (hb : Bd n d) (hn : n ≤ 60) (hbb : b ≤ 1644) {x i : Nat} (hx : x < fP F) (hi : i < fQ F) : ∃ m', fX8_says (nI b) (nI x) (nI i) m = some m' ∧ DynM b (utt F d x i) (m'.1 1) ∧ FrM b m m' := by
  unfold fX8_says fX8_says_E
  have hp := hF.p
  have hq := hF.q
  have h1 := near_le hF hb hi
  have h2 := hb.1
  have h3 := hF.2.2.2.1 x hx
  have h0 := (hF.2.2.2.2.1 i hi).2.2
  have ht := hb.2.1
  have eO : m.1 5 i = nI (fO F i) := (hm.2.2.2.2 i hi).2.2
  have eB : m.1 2 x = nI (fB F x) := hm.2.2.2.1 x hx
  have eN : m.1 1 (b + 5 + i) = nI (dN d i) := hd.2.2.2.2 i (by omega)
  rw [nI_lit2, nI_lit3, nI_lit5, nI_lit4, nI_add, nI_add, nI_add, nI_add, nI_add]
  simp only [nm]
  rw [gd_t (inb_nI (by omega) (by decide)), bo_v (m_near hF hm hd hb hn hbb hi)]
  rw [gd_t (inb_nI (show b + 3 < 1655 by omega) (by decide)), gd_t (inb_nI (show i < 6 by omega) (by decide)), gd_t (inb_nI (show b + 5 + i < 1655 by omega) (by decide)), gd_t (inb_nI (show b + 2 < 1655 by omega) (by decide)), gd_t (inb_nI (show x < 4 by omega) (by decide))]
  rw [nI_clamp (show b + 2 < 2 ^ 31 by omega), nI_clamp (show b + 3 < 2 ^ 31 by omega), nI_clamp (show b + 5 + i < 2 ^ 31 by omega), nI_clamp (show i < 2 ^ 31 by omega), nI_clamp (show x < 2 ^ 31 by omega)]
  generalize hw4 : sA m 1 (b + 2) (m.1 1 (b + 2) + nI (near F d i)) = w4
  have a7 : w4.1 1 (b + 2) = nI (dS d + near F d i) := by rw [← hw4, sA_eq, upd_eq, hd.2.1, nI_add]
  have ak : ∀ k, k ≠ b + 2 → w4.1 1 k = m.1 1 k := fun k h => by rw [← hw4, sA_eq, upd_ne h]
  have ap : ∀ p, p ≠ 1 → w4.1 p = m.1 p := fun p h => by rw [← hw4, sA_ne h]
  have a2 : w4.2 = m.2 := by rw [← hw4]; rfl
  generalize hw6 : sA w4 1 (b + 3) (w4.1 1 (b + 3) ||| w4.1 5 i) = w6
  have b8 : w6.1 1 (b + 3) = nI (dT d ||| fO F i) := by rw [← hw6, sA_eq, upd_eq, ak _ (by omega), ap 5 (by decide), hd.2.2.1, eO, (or7 _ (by omega) _ (by omega)).1]
  have bk : ∀ k, k ≠ b + 3 → w6.1 1 k = w4.1 1 k := fun k h => by rw [← hw6, sA_eq, upd_ne h]
  have bp : ∀ p, p ≠ 1 → w6.1 p = w4.1 p := fun p h => by rw [← hw6, sA_ne h]
  have b2 : w6.2 = m.2 := by rw [← hw6]; exact a2
  generalize hw7 : sA w6 1 (b + 5 + i) (w6.1 1 (b + 5 + i) + 1) = w7
  have c5 : w7.1 1 (b + 5 + i) = nI (dN d i + 1) := by rw [← hw7, sA_eq, upd_eq, bk _ (by omega), ak _ (by omega), eN, nI_1]
  have ck : ∀ k, k ≠ b + 5 + i → w7.1 1 k = w6.1 1 k := fun k h => by rw [← hw7, sA_eq, upd_ne h]
  have cp : ∀ p, p ≠ 1 → w7.1 p = w6.1 p := fun p h => by rw [← hw7, sA_ne h]
  have c2 : w7.2 = m.2 := by rw [← hw7]; exact b2
  have d7 : w7.1 1 (b + 2) = nI (dS d + near F d i) := by rw [ck _ (by omega), bk _ (by omega)]; exact a7
  have d2 : w7.1 2 x = nI (fB F x) := by rw [cp 2 (by decide), bp 2 (by decide), ap 2 (by decide)]; exact eB
  rw [d7, d2]
  have key : ∀ v : Int32, v = ovI (dV (utt F d x i)) → ∃ m', fX8_says_78 v (nI (b + 4)) w7 = some m' ∧ DynM b (utt F d x i) (m'.1 1) ∧ FrM b m m' := by
    intro v hv
    unfold fX8_says_78
    rw [gd_t (inb_nI (by omega) (by decide)), nI_clamp (show b + 4 < 2 ^ 31 by omega)]
    refine ⟨_, rfl, ⟨?_, ?_, ?_, ?_, fun j hj => ?_⟩, ⟨fun p h => ?_, fun k h => ?_, ?_⟩⟩
    · rw [sA_eq, upd_ne (by omega), ck _ (by omega), bk _ (by omega), ak _ (by omega)]; exact hd.1
    · rw [sA_eq, upd_ne (by omega)]; exact d7
    · rw [sA_eq, upd_ne (by omega), ck _ (by omega)]; exact b8
    · rw [sA_eq, upd_eq]; exact hv
    · rw [sA_eq, upd_ne (by omega)]
      show _ = nI (if j = i then dN d j + 1 else dN d j)
      by_cases e : j = i
      · subst e
        rw [if_pos rfl]; exact c5
      · rw [if_neg e, ck _ (by omega), bk _ (by omega), ak _ (by omega)]; exact hd.2.2.2.2 j hj
    · rw [sA_ne h, cp p h, bp p h, ap p h]
    · rw [sA_eq, upd_ne (by omega), ck _ (by omega), bk _ (by omega), ak _ (by omega)]
    · exact c2
  by_cases h : dS d + near F d i ≤ fB F x
  · rw [if_pos ((nI_leI (by omega) (by omega)).mpr h)]
    refine key _ ?_
    show _ = ovI (if fB F x < dS d + near F d i then x + 1 else 0)
    rw [if_neg (by omega)]
    rfl
  · rw [if_neg (fun q => h ((nI_leI (by omega) (by omega)).mp q))]
    refine key _ ?_
    show _ = ovI (if fB F x < dS d + near F d i then x + 1 else 0)
    rw [if_pos (by omega)]
    rfl
theorem m_isOver (hd : DynM 0 d (m.1 1)) (hb : Bd n d) : fX8_isOver m = some (if dV d = 0 then 0 else 1) := by
  unfold fX8_isOver fX8_isOver_E
  have e : m.1 1 4 = ovI (dV d) := by have := hd.2.2.2.1; exact this
  have hv := hb.2.2.1
  rw [e]
  by_cases h : dV d = 0
  · rw [h]; rfl
  · rw [if_neg h, if_neg]
    unfold ovI
    rw [if_neg h]
    intro q
    have q := congrArg Int32.toInt q
    rw [nI_toInt (by omega)] at q
    have : (-9 : Int32).toInt = -9 := rfl
    omega
theorem c_isOver {c : Mm} (hd : DynC d c) (hb : Bd n d) : fX2_isAnyOver_23 c = some (if dV d = 0 then 0 else 1) := by
  unfold fX2_isAnyOver_23 fX2_isAnyOver_23_E
  have hv := hb.2.2.1
  rw [hd.2.2.1]
  by_cases h : dV d = 0
  · rw [h]; rfl
  · rw [if_neg h, if_neg]
    unfold ovI
    rw [if_neg h]
    intro q
    have q := congrArg Int32.toInt q
    rw [nI_toInt (by omega)] at q
    have : (-9 : Int32).toInt = -9 := rfl
    omega
theorem m_isOne (hF : FamOk F) (hm : FamM F m) (x : Int32) : fX8_isOne x m = some (if inb x (fP F) = true then 1 else 0) := by
  unfold fX8_isOne fX8_isOne_E
  have hp := hF.p
  rw [bo_v (in_n x _ (m.1 0 1 - 1) (fP F) rfl (by
    rw [hm.1, nI_lit1, pk_sub_toInt (by omega) (by decide)]; rfl))]
  exact gd01
theorem m_isSaying (hF : FamOk F) (hm : FamM F m) (x : Int32) : fX8_isSaying x m = some (if inb x (fQ F) = true then 1 else 0) := by
  unfold fX8_isSaying fX8_isSaying_E
  have hp := hF.q
  rw [bo_v (in_n x _ (m.1 0 3 - 1) (fQ F) rfl (by
    rw [hm.2.1, nI_lit1, pk_sub_toInt (by omega) (by decide)]; rfl))]
  exact gd01
theorem c_isOne {c : Mm} (hF : FamOk F) (hc : FamC F c) (x : Int32) : fX2_hasPerson_23 x c = some (if inb x (fP F) = true then 1 else 0) := by
  unfold fX2_hasPerson_23 fX2_hasPerson_23_E
  have hp := hF.p
  exact num_eq x _ (fP F) (by rw [hc.1, nI_toInt (by omega)])
theorem c_isSaying {c : Mm} (hF : FamOk F) (hc : FamC F c) (x : Int32) : fX2_hasSaying_23 x c = some (if inb x (fQ F) = true then 1 else 0) := by
  unfold fX2_hasSaying_23 fX2_hasSaying_23_E
  have hp := hF.q
  exact num_eq x _ (fQ F) (by rw [hc.2.1, nI_toInt (by omega)])
theorem c_isEmpty {c : Mm} (hF : FamOk F) (hc : FamC F c) : fX2_isEmpty_23 c = some (if fQ F = 0 then 1 else 0) := by
  unfold fX2_isEmpty_23 fX2_isEmpty_23_E fX2_isEmpty_23_14
  have hp := hF.p
  have hq := hF.q
  have h6 := hF.2.2.2.2.2
  rw [hc.2.1, hc.1]
  by_cases h : fQ F = 0
  · rw [if_pos h, h]; rfl
  · rw [if_neg h, if_neg (nI_ne0 (by omega) (by omega)), if_neg (nI_ne0 (by omega) (by omega))]
end PM

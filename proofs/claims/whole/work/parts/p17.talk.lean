/-! PURE: talk -/
theorem m_layTried (m : Mm) : fX8_layTried m = some (sF m 1 (fun t => if 1644 ≤ t ∧ t < 1644 + 11 then m.1 1 (0 + (t - 1644)) else m.1 1 t)) := by
  unfold fX8_layTried fX8_layTried_E
  have e : (1644 : Int32) = nI 1644 := rfl
  have h := lp_i (f := fX8_layTried_2) (step := fun j w => sA w 1 (1644 + j) (w.1 1 (0 + j))) (fin := some) (fun _ _ => True) 11 (fun N j w hj _ => ⟨by
    rw [fX8_layTried_2, if_neg (show ¬ (11 : Int32) ≤ nI j from nI_ge hj (by decide)), e, nI_add, gd_t (inb_nI (by omega) (by decide)), gd_t (inb_nI (by omega) (by decide)), nI_clamp (show 1644 + j < 2 ^ 31 by omega), nI_clamp (show j < 2 ^ 31 by omega), nI_1, Nat.zero_add]; rfl, trivial⟩) (fun N w _ => by rw [fX8_layTried_2, if_pos (by decide)]) 11 0 FU m rfl (FU_lt (by decide)) trivial
  rw [show (0 : Int32) = nI 0 from rfl, h, itr_copy 1 0 1644 11 (by omega) 11 0 m (by omega)]
theorem ov9 {o : Nat} (h : o ≤ 4) : (ovI o = -9) ↔ o = 0 := by
  unfold ovI
  by_cases q : o = 0
  · rw [if_pos q]; exact ⟨fun _ => q, fun _ => rfl⟩
  · rw [if_neg q]
    refine ⟨fun g => ?_, fun g => absurd g q⟩
    have g := congrArg Int32.toInt g
    rw [nI_toInt (by omega)] at g
    have : (-9 : Int32).toInt = -9 := rfl
    omega
def FrT (m v : Mm) : Prop := (∀ p, p ≠ 1 → v.1 p = m.1 p) ∧ (∀ k, k < 1644 → v.1 1 k = m.1 1 k) ∧ v.2 = m.2
theorem FrT.next {m v v' : Mm} (h : FrT m v) (f : FrM 1644 v v') : FrT m v' := ⟨fun p hp => by rw [f.1 p hp, h.1 p hp], fun k hk => by rw [f.2.1 k (by omega), h.2.1 k hk], by rw [f.2.2, h.2.2]⟩
theorem FamM.frT {F : Fam} {m m' : Mm} (h : FamM F m) (f : FrT m m') : FamM F m' := by
  obtain ⟨h1, h2, h3, h4, h5⟩ := h
  obtain ⟨f1, -, -⟩ := f
  refine ⟨by rw [f1 0 (by decide)]; exact h1, by rw [f1 0 (by decide)]; exact h2, by rw [f1 0 (by decide)]; exact h3, fun x hx => by rw [f1 2 (by decide)]; exact h4 x hx, fun i hi => ?_⟩
  rw [f1 3 (by decide), f1 4 (by decide), f1 5 (by decide)]
  exact h5 i hi
section PT
variable {F : Fam} {c m : Mm} {n : Nat}
theorem talk_end (h : Rel c m) (hF : FamOk F) (hc : FamC F c) (hm : FamM F m) (hD : RelDeeds F n c m) (hk : RelKept F c m) {w v : Mm} {d : Dyn} (fc : FrC c w) (fm : FrT m v) (hd : DynC d w) (hdm : DynM 1644 d (v.1 1)) (x : Int32) : Sim (fX7_talk_194 x w) (fX8_talk_201 x v) := by
  unfold fX7_talk_194 fX8_talk_201
  simp only [nm]
  obtain ⟨ho, hz, hdc, hB⟩ := hD
  have e1 : v.1 1 1646 = nI (dS d) := hdm.2.1
  rw [hd.1, e1]
  have z11 : (sA w 0 9 (nI (dS d))).1 23 11 = nI n := by rw [sA_ne (by decide), fc.2.1 11 (by decide) (by decide) (by decide)]; exact hz
  have w29 : (sA w 0 9 (nI (dS d))).1 29 = c.1 29 := by rw [sA_ne (by decide), fc.1 29 (by decide) (by decide)]
  have hcw : FamC F (sA w 0 9 (nI (dS d))) := by
    have := hc.fr fc
    unfold FamC
    rw [sA_ne (by decide), sA_ne (by decide), sA_ne (by decide), sA_ne (by decide), sA_ne (by decide)]
    exact this
  have ho' : okD F ((sA w 0 9 (nI (dS d))).1 29) n := by rw [w29]; exact ho
  obtain ⟨c', a0, a1, a2, a3⟩ := c_goBack hF hcw ho'
  rw [z11, bo_v a0]
  refine Sim.ret ?_
  have t := h.tell (nI (dS d))
  have cp : ∀ p, p ≠ 23 → p ≠ 28 → (sA w 0 9 (nI (dS d))).1 p = (sA c 0 9 (nI (dS d))).1 p := fun p h1 h2 => by
    by_cases e : p = 0
    · subst e
      rw [sA_eq, sA_eq, fc.1 0 (by decide) (by decide)]
    · rw [sA_ne e, sA_ne e, fc.1 p h1 h2]
  have mp : ∀ p, p ≠ 1 → (sA v 0 12 (nI (dS d))).1 p = (sA m 0 12 (nI (dS d))).1 p := fun p h1 => by
    by_cases e : p = 0
    · subst e
      rw [sA_eq, sA_eq, fm.1 0 (by decide)]
    · rw [sA_ne e, sA_ne e, fm.1 p h1]
  have m1 : ∀ t, t < 1644 → (sA v 0 12 (nI (dS d))).1 1 t = m.1 1 t := fun t ht => by rw [sA_ne (by decide)]; exact fm.2.1 t ht
  refine rel_back (m := sA v 0 12 (nI (dS d))) (t.2.1.cg (fun p h1 h2 => cp p (by omega) (by omega)) (mp 6 (by decide)) (mp 7 (by decide))) (t.2.2.1.cg (fun p h1 h2 => cp p (by omega) (by omega)) (mp 8 (by decide)) (mp 9 (by decide))) (t.2.2.2.cg (by rw [cp 0 (by decide) (by decide)]) (by rw [cp 0 (by decide) (by decide)]) ?_ (cp 43 (by decide) (by decide)) (by rw [mp 0 (by decide)]) (by rw [mp 0 (by decide)]) ?_ (mp 10 (by decide))) hF hcw ?_ (hk.cg ?_ (fun k hk => ?_) (fun t h1 h2 => m1 t (by omega))) ho' a1 a2 a3 ?_ (fun _ _ => rfl) rfl (fun _ _ _ => rfl)
  · show w.2.1 = c.2.1; rw [fc.2.2]
  · show v.2.1 = m.2.1; rw [fm.2.2]
  · have := hm.frT fm
    obtain ⟨g1, g2, g3, g4, g5⟩ := this
    refine ⟨by rw [sA_eq, upd_ne (by decide)]; exact g1, by rw [sA_eq, upd_ne (by decide)]; exact g2, by rw [sA_eq, upd_ne (by decide)]; exact g3, fun x hx => by rw [sA_ne (by decide)]; exact g4 x hx, fun i hi => ?_⟩
    rw [sA_ne (by decide), sA_ne (by decide), sA_ne (by decide)]
    exact g5 i hi
  · rw [sA_ne (by decide), fc.1 19 (by decide) (by decide)]
  · rw [sA_ne (by omega), fc.1 _ (by omega) (by omega)]
  · rw [w29]
    exact hB.cg ho.1 (fun t ht => m1 (0 + t) (by omega))
theorem talk2 (h : Rel c m) (hF : FamOk F) (hc : FamC F c) (hm : FamM F m) (hD : RelDeeds F n c m) (hk : RelKept F c m) {r P : Nat} (hr : r < 6) (hP : P ≤ 10) (hsz : m.1 6 r = nI (2 * P)) (hok : ∀ j, j < P → inb (c.1 (4 + r) (2 * j)) (fP F) = true ∧ inb (c.1 (4 + r) (2 * j + 1)) (fQ F) = true) : ∀ k j N M (w v : Mm) (d : Dyn), j + k = P → k < N → k < M → FrC c w → FrT m v → DynC d w → DynM 1644 d (v.1 1) → Bd (n + j) d → Sim (fX7_talk_150 (nI (2 * P)) (4 + r) N (nI j) (nI (2 * j)) w) (fX8_talk_135 (nI r) M (nI j) v) := by
  have hn := hD.1.1
  intro k
  induction k with
  | zero =>
    intro j N M w v d hj hN hM fc fm hd hdm hb
    obtain ⟨N, rfl⟩ : ∃ t, N = t + 1 := ⟨N - 1, by omega⟩
    obtain ⟨M, rfl⟩ : ∃ t, M = t + 1 := ⟨M - 1, by omega⟩
    have : j = P := by omega
    subst this
    have e6 : v.1 6 r = nI (2 * j) := by rw [fm.1 6 (by decide)]; exact hsz
    rw [fX7_talk_150, nI_1, if_pos (nI_le (by omega) (by omega)), fX8_talk_135, gd_t (inb_nI hr (by decide)), nI_clamp (show r < 2 ^ 31 by omega), e6, nI_lit2, pk_mul, if_pos (nI_le (by omega) (by omega))]
    exact talk_end h hF hc hm hD hk fc fm hd hdm _
  | succ k ih =>
    intro j N M w v d hj hN hM fc fm hd hdm hb
    obtain ⟨N, rfl⟩ : ∃ t, N = t + 1 := ⟨N - 1, by omega⟩
    obtain ⟨M, rfl⟩ : ∃ t, M = t + 1 := ⟨M - 1, by omega⟩
    have e6 : v.1 6 r = nI (2 * P) := by rw [fm.1 6 (by decide)]; exact hsz
    have e8 : v.1 1 1648 = ovI (dV d) := hdm.2.2.2.1
    have hv4 := hb.2.2.1
    rw [fX7_talk_150, nI_1, if_neg (nI_ge (by omega) (by omega)), bo_v (c_isOver hd hb), fX8_talk_135, gd_t (inb_nI hr (by decide)), nI_clamp (show r < 2 ^ 31 by omega), e6, nI_lit2, pk_mul, if_neg (nI_ge (by omega) (by omega)), e8, if_01]
    by_cases hv : dV d = 0
    · rw [if_pos hv, if_pos ((ov9 hv4).mpr hv), gd_t (⟨by omega, by omega⟩ : 4 ≤ 4 + r ∧ 4 + r < 10), gd_t (inb_nI (show 2 * j < 40 by omega) (by decide)), gd_t (inb_nI (show 2 * j + 1 < 40 by omega) (by decide)), l40, pk_mul, nI_add (40 * r) (2 * j), nI_1, nI_1, gd_t (inb_nI (show 40 * r + 2 * j < 240 by omega) (by decide)), gd_t (inb_nI (show 40 * r + 2 * j + 1 < 240 by omega) (by decide)), nI_clamp (show 2 * j < 2 ^ 31 by omega), nI_clamp (show 2 * j + 1 < 2 ^ 31 by omega), nI_clamp (show 40 * r + 2 * j < 2 ^ 31 by omega), nI_clamp (show 40 * r + 2 * j + 1 < 2 ^ 31 by omega)]
      have e1 : w.1 (4 + r) = c.1 (4 + r) := fc.1 _ (by omega) (by omega)
      have e2 : v.1 7 = m.1 7 := fm.1 7 (by decide)
      have e3 : m.1 7 (40 * r + 2 * j) = c.1 (4 + r) (2 * j) := ((h.2.1 r hr).2.2 _ (by omega)).symm
      have e4 : m.1 7 (40 * r + 2 * j + 1) = c.1 (4 + r) (2 * j + 1) := ((h.2.1 r hr).2.2 (2 * j + 1) (by omega)).symm
      obtain ⟨o1, o2⟩ := hok j (by omega)
      obtain ⟨x, hx, -, ex⟩ := inb_ex o1
      obtain ⟨i, hi, -, ei⟩ := inb_ex o2
      rw [e1, e2, e3, e4, ex, ei]
      obtain ⟨w', a0, a1, a2⟩ := c_utter hF (hc.fr fc) hd hb (by omega) hx hi hv
      obtain ⟨v', b0, b1, b2⟩ := m_says (b := 1644) hF (hm.frT fm) hdm hb (by omega) (by decide) hx hi
      have b0' : fX8_says 1644 (nI x) (nI i) v = some v' := b0
      rw [bo_v a0, bo_v b0', nI_add, show 2 * j + 2 = 2 * (j + 1) by omega]
      exact ih (j + 1) N M w' v' _ (by omega) (by omega) (by omega) (fc.trans a2) (fm.next b2) a1 b1 (utt_Bd hF hb (by omega) hx hi)
    · rw [if_neg hv, if_neg (fun q => hv ((ov9 hv4).mp q))]
      exact talk_end h hF hc hm hD hk fc fm hd hdm _
theorem talk1 (h : Rel c m) (hF : FamOk F) (hc : FamC F c) (hm : FamM F m) (hD : RelDeeds F n c m) (hk : RelKept F c m) {r P : Nat} (hr : r < 6) (hP : P ≤ 10) (hsz : m.1 6 r = nI (2 * P)) : ∀ k j N M, j + k = P → k < N → k < M → (∀ i, i < j → inb (c.1 (4 + r) (2 * i)) (fP F) = true ∧ inb (c.1 (4 + r) (2 * i + 1)) (fQ F) = true) → Sim (fX7_talk_94 (nI (2 * P)) (4 + r) N (nI (2 * j)) c) (fX8_talk_74 (nI r) M (nI (40 * r + 2 * j)) m) := by
  have hn := hD.1.1
  intro k
  induction k with
  | zero =>
    intro j N M hj hN hM hok
    obtain ⟨N, rfl⟩ : ∃ t, N = t + 1 := ⟨N - 1, by omega⟩
    obtain ⟨M, rfl⟩ : ∃ t, M = t + 1 := ⟨M - 1, by omega⟩
    have : j = P := by omega
    subst this
    rw [fX7_talk_94, nI_1, if_pos (nI_le (by omega) (by omega)), fX8_talk_74, gd_t (inb_nI hr (by decide)), nI_clamp (show r < 2 ^ 31 by omega), hsz, l40, pk_mul, nI_add, if_pos (nI_le (by omega) (by omega)), bo_v (m_layTried m)]
    refine talk2 h hF hc hm hD hk hr hP hsz hok j 0 FU FU c _ _ (by omega) (FU_lt (by omega)) (FU_lt (by omega)) (FrC.rfl' c) ⟨fun p hp => sF_ne hp, fun t ht => ?_, rfl⟩ hD.2.2.1 ?_ (rep_Bd hF hD.1 n (Nat.le_refl _))
    · rw [sF_eq, if_neg (by omega)]
    · exact hD.2.2.2.2.1.cg (fun t ht => by rw [sF_eq, if_pos (by omega), show 0 + (1644 + 1 + t - 1644) = 0 + 1 + t by omega])
  | succ k ih =>
    intro j N M hj hN hM hok
    obtain ⟨N, rfl⟩ : ∃ t, N = t + 1 := ⟨N - 1, by omega⟩
    obtain ⟨M, rfl⟩ : ∃ t, M = t + 1 := ⟨M - 1, by omega⟩
    have e3 : m.1 7 (40 * r + 2 * j) = c.1 (4 + r) (2 * j) := ((h.2.1 r hr).2.2 _ (by omega)).symm
    have e4 : m.1 7 (40 * r + 2 * j + 1) = c.1 (4 + r) (2 * j + 1) := ((h.2.1 r hr).2.2 (2 * j + 1) (by omega)).symm
    rw [fX7_talk_94, nI_1, if_neg (nI_ge (by omega) (by omega)), gd_t (⟨by omega, by omega⟩ : 4 ≤ 4 + r ∧ 4 + r < 10), gd_t (inb_nI (show 2 * j < 40 by omega) (by decide)), nI_clamp (show 2 * j < 2 ^ 31 by omega), bo_v (c_isOne hF hc _), if_10, gd_t (inb_nI (show 2 * j + 1 < 40 by omega) (by decide)), nI_clamp (show 2 * j + 1 < 2 ^ 31 by omega), bo_v (c_isSaying hF hc _), if_10, fX8_talk_74, gd_t (inb_nI hr (by decide)), nI_clamp (show r < 2 ^ 31 by omega), hsz, l40, pk_mul, nI_add, if_neg (nI_ge (by omega) (by omega)), gd_t (inb_nI (show 40 * r + 2 * j < 240 by omega) (by decide)), nI_clamp (show 40 * r + 2 * j < 2 ^ 31 by omega), bo_v (m_isOne hF hm _), if_10, nI_1, gd_t (inb_nI (show 40 * r + 2 * j + 1 < 240 by omega) (by decide)), nI_clamp (show 40 * r + 2 * j + 1 < 2 ^ 31 by omega), bo_v (m_isSaying hF hm _), if_10, e3, e4]
    unfold fX7_talk_132 fX8_talk_117
    rw [bd_id, bd_id]
    by_cases o1 : inb (c.1 (4 + r) (2 * j)) (fP F) = true
    · rw [if_pos o1, if_pos o1]
      by_cases o2 : inb (c.1 (4 + r) (2 * j + 1)) (fQ F) = true
      · rw [if_pos o2, if_pos o2, nI_lit2, nI_add, nI_add]
        refine ih (j + 1) N M (by omega) (by omega) (by omega) (fun i hi => ?_)
        by_cases e : i = j
        · subst e; exact ⟨o1, o2⟩
        · exact hok i (by omega)
      · rw [if_neg o2, if_neg o2]
        exact sim_find h (k := 3) rfl (by decide) (by decide)
    · rw [if_neg o1, if_neg o1]
      exact sim_find h (k := 3) rfl (by decide) (by decide)
end PT
theorem sim_talk {c m : Mm} (h : Rel c m) (x1 : Int32) : Sim (fX7_talk x1 c) (fX8_talk x1 m) := by
  obtain ⟨F, n, hF, hc, hm, hD, hk⟩ := id h.1
  obtain ⟨ho, hz, hd, hB⟩ := id hD
  have hn := ho.1
  have hb := rep_Bd hF ho n (Nat.le_refl _)
  unfold fX7_talk fX7_talk_E fX8_talk fX8_talk_E
  rw [bo_v (c_num1 x1 c), bo_v (isRow_eq x1), if_10, if_10, bo_v (c_isOver hd hb), bo_v (m_isOver hB.2.1 hb), if_01, if_01, bo_v (c_isEmpty hF hc), if_10]
  by_cases h1 : inb x1 6 = true
  · rw [if_pos h1, if_pos h1]
    by_cases hv : dV (rep F (c.1 29) n) = 0
    · rw [if_pos hv, if_pos hv]
      by_cases he : fQ F = 0
      · rw [if_pos he, if_pos ((q0 hF hm).mpr he)]; exact Sim.ret h
      · rw [if_neg he, if_neg (fun q => he ((q0 hF hm).mp q)), gd_t h1, gd_t h1]
        obtain ⟨r, hr, -, rfl⟩ := inb_ex h1
        rw [bo_v (c_there1 hr), if_01, bd_id, bd_id, nI_clamp (show r < 2 ^ 31 by omega)]
        simp only [nm]
        unfold fX7_talk_75 fX8_talk_63
        rw [bd_id, bd_id]
        rcases h.2.1.sz hr with ⟨e1, e2⟩ | ⟨s, hs, e1, e2⟩
        · rw [if_pos e1, e2, if_neg m1_ge0]
          exact sim_find h (k := 1) rfl (by decide) (by decide)
        · rw [e1, e2, if_neg (nI_ne_m1 (by omega)), if_pos (nI_ge0 (by omega)), nI_lit2, pk_rem (by omega) (by decide) (by decide)]
          by_cases hev : s % 2 = 0
          · rw [hev, if_pos (show nI 0 = 0 from rfl), if_pos (show nI 0 = 0 from rfl)]
            by_cases h20 : s ≤ 20
            · rw [if_pos (show nI s ≤ (20 : Int32) from nI_le h20 (by decide)), if_pos (show nI s ≤ (20 : Int32) from nI_le h20 (by decide))]
              obtain ⟨P, rfl⟩ : ∃ P, s = 2 * P := ⟨s / 2, by omega⟩
              have e0 : (40 : Int32) * nI r = nI (40 * r + 2 * 0) := by rw [l40, pk_mul]; rfl
              rw [e0]
              exact talk1 h hF hc hm hD hk hr (by omega) e2 P 0 FU FU (by omega) (FU_lt (by omega)) (FU_lt (by omega)) (fun i hi => by omega)
            · rw [if_neg (show ¬ nI s ≤ (20 : Int32) from nI_ge (show 20 < s by omega) (by omega)), if_neg (show ¬ nI s ≤ (20 : Int32) from nI_ge (show 20 < s by omega) (by omega))]
              exact sim_find h (k := 5) rfl (by decide) (by decide)
          · rw [if_neg (nI_ne0 (by omega) (by omega)), if_neg (nI_ne0 (by omega) (by omega))]
            exact sim_find h (k := 5) rfl (by decide) (by decide)
    · rw [if_neg hv, if_neg hv]; exact Sim.ret h
  · rw [if_neg h1, if_neg h1]; exact Sim.ret h

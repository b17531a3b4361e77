/-! PURE: what is never said, what to say next -/
def okr (f : Nat → Int32) (Q : Nat) : Nat → Nat → Bool
  | _, 0 => true
  | j, k + 1 => inb (f j) Q && okr f Q (j + 1) k
def tpo (F : Fam) (f : Nat → Int32) : Nat → Nat
  | 0 => 0
  | j + 1 => tpo F f j ||| fO F (f j).toNatClampNeg
theorem okr_cong {f g : Nat → Int32} {Q : Nat} : ∀ {k j : Nat}, (∀ i, j ≤ i → i < j + k → f i = g i) → okr f Q j k = okr g Q j k
  | 0, _, _ => rfl
  | k + 1, j, h => by rw [okr, okr, h j (by omega) (by omega), okr_cong (fun i h1 h2 => h i (by omega) (by omega))]
theorem tpo_cong {F : Fam} {f g : Nat → Int32} : ∀ {n : Nat}, (∀ i, i < n → f i = g i) → tpo F f n = tpo F g n
  | 0, _ => rfl
  | n + 1, h => by rw [tpo, tpo, tpo_cong (fun i hi => h i (by omega)), h n (by omega)]
theorem okr_at {f : Nat → Int32} {Q : Nat} : ∀ {k j : Nat}, okr f Q j k = true → ∀ i, j ≤ i → i < j + k → inb (f i) Q = true
  | 0, _, _, i, h1, h2 => by omega
  | k + 1, j, h, i, h1, h2 => by
    rw [okr, Bool.and_eq_true] at h
    by_cases e : i = j
    · subst e; exact h.1
    · exact okr_at h.2 i (by omega) (by omega)
theorem tpo_le {F : Fam} (hF : FamOk F) {f : Nat → Int32} : ∀ {n : Nat}, (∀ i, i < n → inb (f i) (fQ F) = true) → tpo F f n ≤ 7
  | 0, _ => Nat.zero_le _
  | n + 1, h => by
    have ih := tpo_le hF (fun i hi => h i (by omega)) (n := n)
    obtain ⟨k, hk, hk2, e⟩ := inb_ex (h n (by omega))
    have := (hF.2.2.2.2.1 k hk).2.2
    rw [tpo, e, nI_clamp hk2]
    exact (or7 _ (by omega) _ (by omega)).2
theorem nev1 : ∀ t, t < 8 → (7 : Int32) &&& (nI t ^^^ (-1)) = nI (7 - t) := by decide +kernel
theorem nev2 : ∀ a, a < 8 → ∀ o, o < 8 → nI (7 - a) &&& (nI o ^^^ (-1)) = nI (7 - (a ||| o)) := by decide +kernel
section PN
variable {F : Fam} {c m : Mm}
theorem c_named (hF : FamOk F) (hc : FamC F c) {r n : Nat} (hr : r < 6) (hn : n ≤ 40) (hz : c.1 3 r = nI n) : ∀ k j N, j + k = n → k < N → fX7_refusalOfNamed_38 (nI r) N (nI j) c = if okr (c.1 (4 + r)) (fQ F) j k = true then some (0, c) else fX7_refuse 3 c := by
  intro k
  induction k with
  | zero =>
    intro j N hj hN
    obtain ⟨N, rfl⟩ : ∃ t, N = t + 1 := ⟨N - 1, by omega⟩
    have : j = n := by omega
    subst this
    rw [fX7_refusalOfNamed_38, gd_t (inb_nI hr (by decide)), nI_clamp (show r < 2 ^ 31 by omega), hz, if_pos (nI_le (Nat.le_refl _) (by omega)), okr, if_pos rfl]
  | succ k ih =>
    intro j N hj hN
    obtain ⟨N, rfl⟩ : ∃ t, N = t + 1 := ⟨N - 1, by omega⟩
    rw [fX7_refusalOfNamed_38, gd_t (inb_nI hr (by decide)), nI_clamp (show r < 2 ^ 31 by omega), hz, if_neg (nI_ge (by omega) (by omega)), gd_t (inb_nI (by omega) (by decide)), nI_clamp (show j < 2 ^ 31 by omega), bo_v (c_isSaying hF hc _), if_10, bd_id, nI_1, ih (j + 1) N (by omega) (by omega), okr]
    by_cases h : inb (c.1 (4 + r) j) (fQ F) = true
    · rw [if_pos h, h, Bool.true_and]
    · rw [if_neg h, Bool.not_eq_true] at *
      rw [h, Bool.false_and, if_neg (by decide)]
theorem m_named (hF : FamOk F) (hm : FamM F m) {r n : Nat} (hr : r < 6) (hn : n ≤ 40) (hz : m.1 6 r = nI n) : ∀ k j N, j + k = n → k < N → fX8_noSayings_37 (nI r) N (nI (40 * r + j)) m = if okr (fun i => m.1 7 (40 * r + i)) (fQ F) j k = true then some (0, m) else fX8_find 3 m := by
  intro k
  induction k with
  | zero =>
    intro j N hj hN
    obtain ⟨N, rfl⟩ : ∃ t, N = t + 1 := ⟨N - 1, by omega⟩
    have : j = n := by omega
    subst this
    rw [fX8_noSayings_37, gd_t (inb_nI hr (by decide)), nI_clamp (show r < 2 ^ 31 by omega), hz, l40, pk_mul, nI_add, if_pos (nI_le (Nat.le_refl _) (by omega)), okr, if_pos rfl]
  | succ k ih =>
    intro j N hj hN
    obtain ⟨N, rfl⟩ : ∃ t, N = t + 1 := ⟨N - 1, by omega⟩
    rw [fX8_noSayings_37, gd_t (inb_nI hr (by decide)), nI_clamp (show r < 2 ^ 31 by omega), hz, l40, pk_mul, nI_add, if_neg (nI_ge (by omega) (by omega)), gd_t (inb_nI (by omega) (by decide)), nI_clamp (show 40 * r + j < 2 ^ 31 by omega), bo_v (m_isSaying hF hm _), if_10, bd_id, nI_1, Nat.add_assoc, ih (j + 1) N (by omega) (by omega), okr]
    by_cases h : inb (m.1 7 (40 * r + j)) (fQ F) = true
    · rw [if_pos h, h, Bool.true_and]
    · rw [if_neg h, Bool.not_eq_true] at *
      rw [h, Bool.false_and, if_neg (by decide)]
theorem c_topics (hF : FamOk F) (hc : FamC F c) {r n : Nat} (hr : r < 6) (hn : n ≤ 40) (hz : c.1 3 r = nI n) (hok : ∀ i, i < n → inb (c.1 (4 + r) i) (fQ F) = true) : fX7_topicsOfNamed (nI r) c = some (nI (tpo F (c.1 (4 + r)) n)) := by
  unfold fX7_topicsOfNamed fX7_topicsOfNamed_E
  have hq := hF.q
  have lp : ∀ k j N, j + k = n → k < N → fX7_topicsOfNamed_4 (nI r) c N (nI (tpo F (c.1 (4 + r)) j)) (nI j) = some (nI (tpo F (c.1 (4 + r)) n)) := by
    intro k
    induction k with
    | zero =>
      intro j N hj hN
      obtain ⟨N, rfl⟩ : ∃ t, N = t + 1 := ⟨N - 1, by omega⟩
      have : j = n := by omega
      subst this
      rw [fX7_topicsOfNamed_4, gd_t (inb_nI hr (by decide)), nI_clamp (show r < 2 ^ 31 by omega), hz, if_pos (nI_le (Nat.le_refl _) (by omega))]
    | succ k ih =>
      intro j N hj hN
      obtain ⟨N, rfl⟩ : ∃ t, N = t + 1 := ⟨N - 1, by omega⟩
      have := ih (j + 1) N (by omega) (by omega)
      have ht := tpo_le hF (f := c.1 (4 + r)) (n := j) (fun i hi => hok i (by omega))
      obtain ⟨a, ha, ha2, e⟩ := inb_ex (hok j (by omega))
      have ho := (hF.2.2.2.2.1 a ha).2.2
      rw [fX7_topicsOfNamed_4, gd_t (inb_nI hr (by decide)), nI_clamp (show r < 2 ^ 31 by omega), hz, if_neg (nI_ge (by omega) (by omega)), gd_t (inb_nI (by omega) (by decide)), nI_clamp (show j < 2 ^ 31 by omega), e, gd_t (inb_nI (by omega) (by decide)), nI_clamp ha2, (hc.2.2.2.2 a ha).2.2]
      simp only [nm]
      rw [(or7 _ (by omega) _ (by omega)).1, nI_1]
      rw [tpo, e, nI_clamp ha2] at this
      exact this
  exact lp n 0 FU (by omega) (FU_lt (by omega))
theorem m_never (hF : FamOk F) (hm : FamM F m) {r n : Nat} (hr : r < 6) (hn : n ≤ 40) (hz : m.1 6 r = nI n) (hok : ∀ i, i < n → inb (m.1 7 (40 * r + i)) (fQ F) = true) : fX8_neverOf (nI r) m = some (nI (7 - tpo F (fun i => m.1 7 (40 * r + i)) n)) := by
  unfold fX8_neverOf fX8_neverOf_E
  have hq := hF.q
  have lp : ∀ k j N, j + k = n → k < N → fX8_neverOf_8 (nI r) m N (nI (7 - tpo F (fun i => m.1 7 (40 * r + i)) j)) (nI (40 * r + j)) = some (nI (7 - tpo F (fun i => m.1 7 (40 * r + i)) n)) := by
    intro k
    induction k with
    | zero =>
      intro j N hj hN
      obtain ⟨N, rfl⟩ : ∃ t, N = t + 1 := ⟨N - 1, by omega⟩
      have : j = n := by omega
      subst this
      rw [fX8_neverOf_8, gd_t (inb_nI hr (by decide)), nI_clamp (show r < 2 ^ 31 by omega), hz, l40, pk_mul, nI_add, if_pos (nI_le (Nat.le_refl _) (by omega))]
    | succ k ih =>
      intro j N hj hN
      obtain ⟨N, rfl⟩ : ∃ t, N = t + 1 := ⟨N - 1, by omega⟩
      have := ih (j + 1) N (by omega) (by omega)
      have ht := tpo_le hF (f := fun i => m.1 7 (40 * r + i)) (n := j) (fun i hi => hok i (by omega))
      obtain ⟨a, ha, ha2, e⟩ := inb_ex (hok j (by omega))
      have ho := (hF.2.2.2.2.1 a ha).2.2
      rw [fX8_neverOf_8, gd_t (inb_nI hr (by decide)), nI_clamp (show r < 2 ^ 31 by omega), hz, l40, pk_mul, nI_add, if_neg (nI_ge (by omega) (by omega)), gd_t (inb_nI (by omega) (by decide)), nI_clamp (show 40 * r + j < 2 ^ 31 by omega), e, gd_t (inb_nI (by omega) (by decide)), nI_clamp ha2, (hm.2.2.2.2 a ha).2.2]
      simp only [nm]
      rw [nev2 _ (by omega) _ (by omega), nI_1, Nat.add_assoc]
      rw [tpo, e, nI_clamp ha2] at this
      exact this
  simp only [nm]
  have e0 : (40 : Int32) * nI r = nI (40 * r + 0) := by rw [l40, pk_mul, Nat.add_zero]
  rw [e0]
  exact lp n 0 FU (by omega) (FU_lt (by omega))
end PN
/-- the refusals of never and next -/
theorem sim_named {c m : Mm} (h : Rel c m) {F : Fam} (hF : FamOk F) (hc : FamC F c) (hm : FamM F m) {r : Nat} (hr : r < 6) (K : Mm → Option (Int32 × Mm)) (L : Mm → Option (Int32 × Mm))
    (hKL : ∀ n, n ≤ 12 → c.1 3 r = nI n → m.1 6 r = nI n → (∀ i, i < n → inb (c.1 (4 + r) i) (fQ F) = true) → (∀ i, i < n → inb (m.1 7 (40 * r + i)) (fQ F) = true) → tpo F (c.1 (4 + r)) n = tpo F (fun i => m.1 7 (40 * r + i)) n → Sim (K c) (L m)) : Sim (bd (fX7_refusalOfNamed (nI r) c) (fun r w => if r = 0 then K w else some (r, w))) (bd (fX8_noSayings (nI r) m) (fun r w => if r = 0 then L w else some (r, w))) := by
  unfold fX7_refusalOfNamed fX7_refusalOfNamed_E fX8_noSayings fX8_noSayings_E
  simp only [nm]
  have e12 : (12 : Int32) = nI 12 := rfl
  rw [c_ref1 hr, gd_t (inb_nI hr (by decide)), nI_clamp (show r < 2 ^ 31 by omega), bd_id, bd_id]
  rcases h.2.1.sz hr with ⟨e1, e2⟩ | ⟨n, hn, e1, e2⟩
  · rw [if_pos e1, e2, if_neg m1_ge0, bd_ref (f := 1) (k := 1) rfl (by decide), bd_ref (f := 1) (k := 1) rfl (by decide), bd_find (f := 1) (k := 1) rfl (by decide)]
    exact sim_find h (k := 1) rfl (by decide) (by decide)
  · rw [e1, e2, if_neg (nI_ne_m1 (by omega)), if_pos (nI_ge0 (by omega)), bd_0, gd_t (inb_nI hr (by decide)), e1, bd_id, e12]
    by_cases h12 : n ≤ 12
    · rw [if_pos (nI_le h12 (by decide)), if_pos (nI_le h12 (by decide))]
      have e0 : (40 : Int32) * nI r = nI (40 * r + 0) := by rw [l40, pk_mul, Nat.add_zero]
      have a1 := c_named hF hc hr hn e1 n 0 FU (by omega) (FU_lt (by omega))
      have a2 := m_named hF hm hr hn e2 n 0 FU (by omega) (FU_lt (by omega))
      have ef : ∀ i, i < n → c.1 (4 + r) i = m.1 7 (40 * r + i) := fun i hi => (h.2.1 r hr).2.2 i (by omega)
      have eo : okr (c.1 (4 + r)) (fQ F) 0 n = okr (fun i => m.1 7 (40 * r + i)) (fQ F) 0 n := okr_cong (fun i _ hi => ef i (by omega))
      rw [e0, show (0 : Int32) = nI 0 from rfl, a1, a2, ← eo]
      by_cases ho : okr (c.1 (4 + r)) (fQ F) 0 n = true
      · rw [if_pos ho, if_pos ho]
        exact hKL n h12 e1 e2 (fun i hi => okr_at ho i (by omega) (by omega)) (fun i hi => by rw [← ef i hi]; exact okr_at ho i (by omega) (by omega)) (tpo_cong ef)
      · rw [if_neg ho, if_neg ho]
        have b1 := bd_ref (f := 3) (k := 3) rfl (by decide) (c := c) (K := K)
        have b2 := bd_find (f := 3) (k := 3) rfl (by decide) (c := m) (K := L)
        have b1' : bd (fX7_refuse 3 c) (fun r w => if r = nI 0 then K w else some (r, w)) = fX7_refuse 3 c := b1
        have b2' : bd (fX8_find 3 m) (fun r w => if r = nI 0 then L w else some (r, w)) = fX8_find 3 m := b2
        rw [b1', b2']
        exact sim_find h (k := 3) rfl (by decide) (by decide)
    · rw [if_neg (nI_ge (by omega) (by omega)), if_neg (nI_ge (by omega) (by omega)), bd_ref (f := 5) (k := 5) rfl (by decide), bd_find (f := 5) (k := 5) rfl (by decide)]
      exact sim_find h (k := 5) rfl (by decide) (by decide)
theorem c_namedn {c : Mm} {x : Int32} (hx : ¬ inb x 6 = true) : fX7_refusalOfNamed x c = some (-1, c) := by
  unfold fX7_refusalOfNamed fX7_refusalOfNamed_E
  rw [c_ref1n hx]
  exact bd_m1
theorem sim_never {c m : Mm} (h : Rel c m) (x1 : Int32) : Sim (fX7_never x1 c) (fX8_never x1 m) := by
  obtain ⟨F, n, hF, hc, hm, -⟩ := id h.1
  unfold fX7_never fX7_never_E fX8_never fX8_never_E
  rw [bo_v (isRow_eq x1), if_10]
  by_cases h1 : inb x1 6 = true
  · rw [if_pos h1]
    obtain ⟨r, hr, -, rfl⟩ := inb_ex h1
    refine sim_named h hF hc hm hr _ _ (fun n hn e1 e2 o1 o2 et => ?_)
    have ht := tpo_le hF o1
    rw [bo_v (c_topics hF hc hr (by omega) e1 o1), bo_v (m_never hF hm hr (by omega) e2 o2), nev1 _ (by omega), et]
    exact Sim.ret h
  · rw [if_neg h1, c_namedn h1]
    exact Sim.ret h
/-! next -/
theorem next_loop {F : Fam} {c m : Mm} {d : Dyn} {n' : Nat} (h : Rel c m) (hF : FamOk F) (hc : FamC F c) (hm : FamM F m) (hdc : DynC d c) (hdm : DynM 0 d (m.1 1)) (hb : Bd n' d) (hn' : n' ≤ 60) {r t : Nat} (ht : t < 8) (hnv : fX8_neverOf (nI r) m = some (nI t)) : ∀ k i N M b y, i + k = fQ F → k < N → k < M → b < fQ F → Sim (fX7_next_58 (nI t) N (nI b) y (nI i) c) (fX8_next_39 (nI r) M (nI b) y (nI i) m) := by
  have hq := hF.q
  intro k
  induction k with
  | zero =>
    intro i N M b y hi hN hM hb'
    obtain ⟨N, rfl⟩ : ∃ t, N = t + 1 := ⟨N - 1, by omega⟩
    obtain ⟨M, rfl⟩ : ∃ t, M = t + 1 := ⟨M - 1, by omega⟩
    have : i = fQ F := by omega
    subst this
    rw [fX7_next_58, fX8_next_39, hc.2.1, hm.2.1, if_pos (nI_le (Nat.le_refl _) (by omega)), if_pos (nI_le (Nat.le_refl _) (by omega))]
    exact Sim.ret (h.tell y)
  | succ k ih =>
    intro i N M b y hi hN hM hb'
    obtain ⟨N, rfl⟩ : ∃ t, N = t + 1 := ⟨N - 1, by omega⟩
    obtain ⟨M, rfl⟩ : ∃ t, M = t + 1 := ⟨M - 1, by omega⟩
    have hiq : i < fQ F := by omega
    have ho := (hF.2.2.2.2.1 i hiq).2.2
    have hand : fO F i &&& t < 64 := Nat.lt_of_le_of_lt Nat.and_le_left (by omega)
    have en : ∀ j, j < fQ F → fX8_nearOf 0 (nI j) m = some (nI (near F d j)) := fun j hj => m_near (b := 0) hF hm hdm hb hn' (by decide) hj
    rw [fX7_next_58, fX8_next_39, hc.2.1, hm.2.1, if_neg (nI_ge (by omega) (by omega)), if_neg (nI_ge (by omega) (by omega)), gd_t (inb_nI (by omega) (by decide)), gd_t (inb_nI (by omega) (by decide)), nI_clamp (show i < 2 ^ 31 by omega), (hc.2.2.2.2 i hiq).2.2, (hm.2.2.2.2 i hiq).2.2, bo_v hnv, fa_and, bo_v (bc_eq _ hand), bo_v (bits_eq _ hand)]
    unfold fX7_next_122 fX7_next_130 fX8_next_96 fX8_next_100 fX8_next_101 fX8_next_114 fX8_next_127
    rw [nI_1]
    have z1 : ∀ {α : Type} (A B : α), (if (1 : Int32) = 0 then A else B) = B := fun A B => if_neg (by decide)
    have z0 : ∀ {α : Type} (A B : α), (if (0 : Int32) = 0 then A else B) = A := fun A B => if_pos rfl
    simp only [z1, z0]
    by_cases q : y < nI (pc6 (fO F i &&& t))
    · rw [if_pos q, if_pos q]
      exact ih (i + 1) N M i _ (by omega) (by omega) (by omega) hiq
    · rw [if_neg q, if_neg q]
      by_cases q2 : nI (pc6 (fO F i &&& t)) = y
      · rw [if_pos q2, if_pos q2, bo_v (c_near hF hc hdc hb hn' hiq), bo_v (c_near hF hc hdc hb hn' hb'), bo_v (en i hiq), bo_v (en b hb')]
        by_cases q3 : nI (near F d b) ≤ nI (near F d i)
        · rw [if_pos q3, if_pos q3]
          exact ih (i + 1) N M b y (by omega) (by omega) (by omega) hb'
        · rw [if_neg q3, if_neg q3]
          exact ih (i + 1) N M i _ (by omega) (by omega) (by omega) hiq
      · rw [if_neg q2, if_neg q2]
        exact ih (i + 1) N M b y (by omega) (by omega) (by omega) hb'
theorem sim_next {c m : Mm} (h : Rel c m) (x1 : Int32) : Sim (fX7_next x1 c) (fX8_next x1 m) := by
  obtain ⟨F, n, hF, hc, hm, ⟨ho, hz, hd, hB⟩, hk⟩ := id h.1
  have hn := ho.1
  have hb := rep_Bd hF ho n (Nat.le_refl _)
  unfold fX7_next fX7_next_E fX8_next fX8_next_E
  rw [bo_v (c_num1 x1 c), bo_v (isRow_eq x1), if_10, if_10, bo_v (c_isEmpty hF hc), if_10]
  by_cases h1 : inb x1 6 = true
  · rw [if_pos h1, if_pos h1]
    by_cases he : fQ F = 0
    · rw [if_pos he, if_pos ((q0 hF hm).mpr he)]; exact Sim.ret h
    · rw [if_neg he, if_neg (fun q => he ((q0 hF hm).mp q))]
      obtain ⟨r, hr, -, rfl⟩ := inb_ex h1
      refine sim_named h hF hc hm hr _ _ (fun k hk e1 e2 o1 o2 et => ?_)
      have ht := tpo_le hF o1
      rw [bo_v (c_topics hF hc hr (by omega) e1 o1)]
      simp only [nm]
      rw [nev1 _ (by omega)]
      have hq := hF.q
      exact next_loop h hF hc hm hd hB.2.1 hb (by omega) (by omega) (by rw [m_never hF hm hr (by omega) e2 o2, et]) (fQ F) 0 FU FU 0 (-1) (by omega) (FU_lt (by omega)) (FU_lt (by omega)) (by omega)
  · rw [if_neg h1, if_neg h1]; exact Sim.ret h

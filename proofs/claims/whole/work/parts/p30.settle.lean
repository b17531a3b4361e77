/-! PURE: settle, least, rows -/
/-- the class has tried turns, the reference too: all stands as before -/
theorem Rel.turnA {c c' m m' : Mm} {F : Fam} {n : Nat} (h : Rel c m) (hF : FamOk F) (hc : FamC F c) (hm : FamM F m) (hD : RelDeeds F n c m) (hk : RelKept F c m) (a : DynC (rep F (c.1 29) n) c') (f : FrA c c') (g : ScM m m') : Rel c' m' ∧ FamC F c' ∧ FamM F m' ∧ RelDeeds F n c' m' ∧ RelKept F c' m' := by
  obtain ⟨ho, hz, hd, hB⟩ := hD
  obtain ⟨-, r2, r3, r4⟩ := h
  have D' : RelDeeds F n c' m' := ⟨by rw [f.1 29 (by decide) (by decide) (by decide) (by decide)]; exact ho, by rw [f.2.1 11 (by decide) (by decide) (by decide)]; exact hz, by rw [f.1 29 (by decide) (by decide) (by decide) (by decide)]; exact a, by rw [f.1 29 (by decide) (by decide) (by decide) (by decide)]; exact hB.cg ho.1 (fun t ht => g.2.1 _ (by omega))⟩
  have K' : RelKept F c' m' := hk.cg (f.1 19 (by decide) (by decide) (by decide) (by decide)) (fun k hk => f.1 _ (by omega) (by omega) (by omega) (by omega)) (fun t h1 h2 => g.2.1 t h2)
  refine ⟨⟨⟨F, n, hF, hc.frA f, hm.sc g, D', K'⟩, r2.cg (fun p h1 h2 => f.1 p (by omega) (by omega) (by omega) (by omega)) (g.1 6 (by decide) (by decide)) (g.1 7 (by decide) (by decide)), r3.cg (fun p h1 h2 => f.1 p (by omega) (by omega) (by omega) (by omega)) (g.1 8 (by decide) (by decide)) (g.1 9 (by decide) (by decide)), ?_⟩, hc.frA f, hm.sc g, D', K'⟩
  unfold RelTell
  rw [f.1 0 (by decide) (by decide) (by decide) (by decide), f.1 43 (by decide) (by decide) (by decide) (by decide), f.2.2.1 0 (by decide), g.2.2.1 12 (by decide), g.2.2.1 15 (by decide), g.2.2.2, g.1 10 (by decide) (by decide)]
  exact r4
/-- so far -/
def uptoA (F : Fam) (L : Nat) (d : Dyn) (x t : Nat) : Acc := (List.range t).foldl (fun a s => lf leafA (rr F L d x s) s a) (0, 0, -9)
def uptoS (F : Fam) (L : Nat) (d : Dyn) (x t : Nat) : Option Nat := (List.range t).foldl (fun a s => lf leafS (rr F L d x s) s a) none
theorem uptoA_s (F : Fam) (L : Nat) (d : Dyn) (x t : Nat) : uptoA F L d x (t + 1) = lf leafA (rr F L d x t) t (uptoA F L d x t) := by
  unfold uptoA
  rw [List.range_succ, List.foldl_append]
  rfl
theorem uptoS_s (F : Fam) (L : Nat) (d : Dyn) (x t : Nat) : uptoS F L d x (t + 1) = lf leafS (rr F L d x t) t (uptoS F L d x t) := by
  unfold uptoS
  rw [List.range_succ, List.foldl_append]
  rfl
theorem ffgA (F : Fam) (L : Nat) (d : Dyn) (x : Nat) : ffg F leafA L d x 0 (0, 0, -9) = uptoA F L d x ((fQ F + 1) ^ L) := by
  rw [ffg_eq]
  unfold uptoA
  refine fold_cong _ _ (fun a t _ => ?_)
  rw [Nat.zero_mul, Nat.zero_add]
theorem ffgS (F : Fam) (L : Nat) (d : Dyn) (x : Nat) : ffg F leafS L d x 0 none = uptoS F L d x ((fQ F + 1) ^ L) := by
  rw [ffg_eq]
  unfold uptoS
  refine fold_cong _ _ (fun a t _ => ?_)
  rw [Nat.zero_mul, Nat.zero_add]
theorem uptoS_keep (F : Fam) (L : Nat) (d : Dyn) (x : Nat) {t r : Nat} (h : uptoS F L d x t = some r) : ∀ k, uptoS F L d x (t + k) = some r
  | 0 => h
  | k + 1 => by
    rw [← Nat.add_assoc, uptoS_s, uptoS_keep F L d x h k]
    cases rr F L d x (t + k) <;> rfl
theorem uptoA_lt (F : Fam) (L : Nat) (d : Dyn) (x : Nat) (hT : ∀ t e, rr F L d x t = some e → dT e ≤ 7) : ∀ t, (uptoA F L d x t).2.1 < 8 ∧ (uptoA F L d x t).1 ≤ t
  | 0 => ⟨(by decide : 0 < 8), Nat.le_refl _⟩
  | t + 1 => by
    obtain ⟨h1, h2⟩ := uptoA_lt F L d x hT t
    rw [uptoA_s]
    cases hr : rr F L d x t with
    | none => exact ⟨h1, by show (uptoA F L d x t).1 ≤ t + 1; omega⟩
    | some e =>
      have := hT t e hr
      refine ⟨?_, ?_⟩
      · show (uptoA F L d x t).2.1 ||| dT e < 8
        have := (or7 _ (show (uptoA F L d x t).2.1 < 8 from h1) (dT e) (by omega)).2
        omega
      · show (uptoA F L d x t).1 + 1 ≤ t + 1
        omega
section PR
variable {F : Fam} {d : Dyn} {m : Mm} {n : Nat}
theorem m_settles (hF : FamOk F) (hm : FamM F m) (hd : DynM 0 d (m.1 1)) (hb : Bd n d) (hn : n ≤ 40) (hv : dV d = 0) {L x t : Nat} (hL : L ≤ 5) (hx : x < fP F) (ht : t < 20000) : ∃ m', FrT m m' ∧ ((fX8_settles (nI x) (nI L) (nI t) m = some (0, m') ∧ ∀ e, rr F L d x t = some e → ¬ dT e = 7) ∨ (fX8_settles (nI x) (nI L) (nI t) m = some (1, m') ∧ ∃ e, rr F L d x t = some e ∧ dT e = 7 ∧ m'.1 1 1646 = nI (dS e))) := by
  unfold fX8_settles fX8_settles_E
  obtain ⟨m', g1, g2, g3⟩ := m_isWell hF hm hd hb hn hv hL hx ht
  refine ⟨m', g2, ?_⟩
  rw [bd_v g1]
  cases hr : rr F L d x t with
  | none =>
    rw [show oD none = 0 from rfl, if_pos rfl]
    exact Or.inl ⟨rfl, fun e he => by cases he⟩
  | some e =>
    obtain ⟨h1, h2⟩ := g3 e hr
    have e7 : m'.1 1 1647 = nI (dT e) := h1.2.2.1
    have hT := h2.2.1
    rw [show oD (some e) = 1 from rfl, if_neg (by decide), e7]
    by_cases h : dT e = 7
    · rw [h, if_pos (by decide)]
      exact Or.inr ⟨rfl, e, rfl, h, h1.2.1⟩
    · rw [if_neg (by rw [show (7 : Int32) = nI 7 from rfl, nI_eq (by omega) (by decide)]; exact h)]
      exact Or.inl ⟨rfl, fun e' he' => by injection he' with he'; subst he'; exact h⟩
theorem DynM.frT {d : Dyn} {m m' : Mm} (h : DynM 0 d (m.1 1)) (f : FrT m m') : DynM 0 d (m'.1 1) := h.cg (fun t ht => f.2.1 _ (by omega))
theorem m_least (hF : FamOk F) (hn : n ≤ 40) (hv : dV d = 0) (hb : Bd n d) {L x : Nat} (hL : L ≤ 5) (hx : x < fP F) : ∀ r t N (w : Mm), t + r = (fQ F + 1) ^ L → r < N → FamM F w → DynM 0 d (w.1 1) → ∃ w', fX8_least_45 (nI x) (nI L) N (uptoA F L d x t).2.2 (nI t) w = some ((uptoA F L d x ((fQ F + 1) ^ L)).2.2, w') ∧ FrT w w' := by
  have hq := hF.q
  have hpw := pw_le (b := fQ F + 1) (j := L) (by omega) hL
  intro r
  induction r with
  | zero =>
    intro t N w ht hN hm hd
    obtain ⟨N, rfl⟩ : ∃ t, N = t + 1 := ⟨N - 1, by omega⟩
    have : t = (fQ F + 1) ^ L := by omega
    rw [fX8_least_45, bo_v (m_power hF hm hL), if_pos (nI_le (by omega) (by omega)), this]
    exact ⟨w, rfl, FrT.rfl' w⟩
  | succ r ih =>
    intro t N w ht hN hm hd
    obtain ⟨N, rfl⟩ : ∃ t, N = t + 1 := ⟨N - 1, by omega⟩
    obtain ⟨w1, g1, g2⟩ := m_settles hF hm hd hb hn hv hL hx (show t < 20000 by omega)
    obtain ⟨w2, k1, k2⟩ := ih (t + 1) N w1 (by omega) (by omega) (hm.frT g1) (hd.frT g1)
    rw [fX8_least_45, bo_v (m_power hF hm hL), if_neg (nI_ge (by omega) (by omega))]
    unfold fX8_least_88 fX8_least_84 fX8_least_89 fX8_least_108
    rw [nI_1]
    refine ⟨w2, ?_, g1.trans k2⟩
    rw [uptoA_s] at k1
    rcases g2 with ⟨h1, h2⟩ | ⟨h1, e, h2, h3, h4⟩
    · have : (lf leafA (rr F L d x t) t (uptoA F L d x t)).2.2 = (uptoA F L d x t).2.2 := by
        cases hr : rr F L d x t with
        | none => rfl
        | some e =>
          show (if dT e = 7 then _ else (uptoA F L d x t).2.2) = _
          rw [if_neg (h2 e hr)]
      rw [this] at k1
      rw [bd_v h1, if_pos rfl, if_pos rfl]
      exact k1
    · have : (lf leafA (rr F L d x t) t (uptoA F L d x t)).2.2 = (if (uptoA F L d x t).2.2 = -9 then nI (dS e) else if (uptoA F L d x t).2.2 ≤ nI (dS e) then (uptoA F L d x t).2.2 else nI (dS e)) := by
        rw [h2]
        show (if dT e = 7 then _ else (uptoA F L d x t).2.2) = _
        rw [if_pos h3]
      rw [this] at k1
      rw [bd_v h1, if_neg (by decide), if_neg (show ¬ (1 : Int32) = 0 by decide), if_pos rfl, h4]
      by_cases q : (uptoA F L d x t).2.2 = -9
      · rw [if_pos q] at k1 ⊢; exact k1
      · rw [if_neg q] at k1 ⊢
        by_cases q2 : (uptoA F L d x t).2.2 ≤ nI (dS e)
        · rw [if_pos q2] at k1 ⊢; exact k1
        · rw [if_neg q2] at k1 ⊢; exact k1
end PR
theorem noTurns_eq {c m : Mm} {F : Fam} {n : Nat} (hF : FamOk F) (hc : FamC F c) (hm : FamM F m) (hD : RelDeeds F n c m) (x1 x2 : Int32) : ∃ r, fX7_refusalOfTurns x1 x2 c = some r ∧ (∀ (A : Option (Int32 × Mm)), bo (fX8_isOne x1 m) (fun r_13 => (if r_13 = 0 then some ((-1), m) else bo (fX8_in x2.toInt64 0 5) (fun r_17 => (if r_17 = 0 then some ((-1), m) else bo (fX8_isOver m) (fun r_21 => (if r_21 = 0 then (if (m.1 0 3) = 0 then some ((-4), m) else A) else some ((-4), m))))))) = if r = 0 then A else some (r, m)) ∧ (r = 0 → inb x1 (fP F) = true ∧ inb x2 6 = true ∧ dV (rep F (c.1 29) n) = 0 ∧ 0 < fQ F) := by
  obtain ⟨ho, hz, hd, hB⟩ := hD
  have hb := rep_Bd hF ho n (Nat.le_refl _)
  unfold fX7_refusalOfTurns fX7_refusalOfTurns_E fX7_refusalOfTurns_42
  have eM : ∀ (A : Option (Int32 × Mm)), bo (fX8_isOne x1 m) (fun r_13 => (if r_13 = 0 then some ((-1), m) else bo (fX8_in x2.toInt64 0 5) (fun r_17 => (if r_17 = 0 then some ((-1), m) else bo (fX8_isOver m) (fun r_21 => (if r_21 = 0 then (if (m.1 0 3) = 0 then some ((-4), m) else A) else some ((-4), m))))))) = if inb x1 (fP F) = true then (if inb x2 6 = true then (if dV (rep F (c.1 29) n) = 0 then (if (m.1 0 3) = 0 then some ((-4), m) else A) else some ((-4), m)) else some ((-1), m)) else some ((-1), m) := by
    intro A
    rw [bo_v (m_isOne hF hm x1), if_10, bo_v (in_n x2 5 5 6 rfl rfl), if_10, bo_v (m_isOver hB.2.1 hb), if_01]
  rw [bo_v (c_isOne hF hc x1), if_10, bo_v (c_isOver hd hb), if_01, bo_v (c_isEmpty hF hc), if_10, rng_c x2 5 6 rfl]
  by_cases h1 : inb x1 (fP F) = true
  · rw [if_pos h1]
    by_cases h2 : inb x2 6 = true
    · rw [if_pos h2]
      by_cases hv : dV (rep F (c.1 29) n) = 0
      · rw [if_pos hv]
        by_cases he : fQ F = 0
        · rw [if_pos he]
          refine ⟨-4, rfl, fun A => ?_, fun q => absurd q (by decide)⟩
          rw [eM A, if_pos h1, if_pos h2, if_pos hv, if_pos ((q0 hF hm).mpr he), if_neg (by decide)]
        · rw [if_neg he]
          refine ⟨0, rfl, fun A => ?_, fun _ => ⟨h1, h2, hv, by omega⟩⟩
          rw [eM A, if_pos h1, if_pos h2, if_pos hv, if_neg (fun q => he ((q0 hF hm).mp q)), if_pos rfl]
      · rw [if_neg hv]
        refine ⟨-4, rfl, fun A => ?_, fun q => absurd q (by decide)⟩
        rw [eM A, if_pos h1, if_pos h2, if_neg hv, if_neg (by decide)]
    · rw [if_neg h2]
      refine ⟨-1, rfl, fun A => ?_, fun q => absurd q (by decide)⟩
      rw [eM A, if_pos h1, if_neg h2, if_neg (by decide)]
  · rw [if_neg h1]
    refine ⟨-1, rfl, fun A => ?_, fun q => absurd q (by decide)⟩
    rw [eM A, if_neg h1, if_neg (by decide)]
theorem c_tryAll {F : Fam} {c : Mm} {d : Dyn} {n x L : Nat} (hF : FamOk F) (hc : FamC F c) (hd : DynC d c) (hb : Bd n d) (hn : n ≤ 40) (hv : dV d = 0) (hx : x < fP F) (hL : L ≤ 5) : ∃ c', fX6_tryAll (nI x) (nI L) c = some c' ∧ DynC d c' ∧ FrA c c' ∧ AccC (uptoA F L d x ((fQ F + 1) ^ L)) c' := by
  unfold fX6_tryAll fX6_tryAll_E
  simp only [nm]
  have fr0 : FrA c (sA (sA (sL c 39 1 0) 39 2 0) 39 3 (-9)) := ⟨fun p _ _ h _ => by rw [sA_ne h, sA_ne h]; rfl, fun k _ _ _ => by rw [sA_ne (by decide), sA_ne (by decide)]; rfl, fun q hq => by show (sL c 39 1 0).2.1 q = _; rw [sL_ne hq], rfl⟩
  have hd0 : DynC d (sA (sA (sL c 39 1 0) 39 2 0) 39 3 (-9)) := hd.cg (by rw [sA_ne (by decide), sA_ne (by decide)]; rfl) (by rw [sA_ne (by decide), sA_ne (by decide)]; rfl)
  have ha0 : AccC (0, 0, -9) (sA (sA (sL c 39 1 0) 39 2 0) 39 3 (-9)) := by
    refine ⟨?_, ?_, ?_, by decide⟩
    · show (sL c 39 1 0).2.1 39 1 = _
      rw [sL_eq, vL_eq]; rfl
    · rw [sA_eq, upd_ne (by decide), sA_eq, upd_eq]; rfl
    · rw [sA_eq, upd_eq]
  have hDEP : DEP = 10 := rfl
  obtain ⟨c', g1, g2, g3, g4⟩ := c_all hF hn hL L 0 DEP d x 0 (0, 0, -9) _ (by omega) (by omega) (hc.frA fr0) hd0 hv hb hx ha0
  have g1' : fX6_attemptFrom DEP (nI x) 0 (nI L) 0 (sA (sA (sL c 39 1 0) 39 2 0) 39 3 (-9)) = some (0, c') := g1
  rw [bd_v g1']
  rw [ffgA] at g3
  exact ⟨c', rfl, g2, fr0.trans g4, g3⟩
theorem sim_least {c m : Mm} (h : Rel c m) (x1 x2 : Int32) : Sim (fX7_least x1 x2 c) (fX8_least x1 x2 m) := by
  obtain ⟨F, n, hF, hc, hm, hD, hk⟩ := id h.1
  obtain ⟨ho, hz, hd, hB⟩ := id hD
  have hb := rep_Bd hF ho n (Nat.le_refl _)
  have hq := hF.q
  unfold fX7_least fX7_least_E fX8_least fX8_least_E
  obtain ⟨r, a1, a2, a3⟩ := noTurns_eq hF hc hm hD x1 x2
  rw [bo_v a1, a2]
  by_cases h0 : r = 0
  · rw [if_pos h0, if_pos h0]
    obtain ⟨h1, h2, hv, hQ⟩ := a3 h0
    obtain ⟨x, hx, -, rfl⟩ := inb_ex h1
    obtain ⟨L, hL, -, rfl⟩ := inb_ex h2
    obtain ⟨c', b1, b2, b3, b4⟩ := c_tryAll hF hc hd hb ho.1 hv hx (show L ≤ 5 by omega)
    obtain ⟨m', e1, e2⟩ := m_least hF ho.1 hv hb (show L ≤ 5 by omega) hx ((fQ F + 1) ^ L) 0 FU m (by omega) (FU_lt (by have := pw_le (b := fQ F + 1) (j := L) (by omega) (by omega); omega)) hm hB.2.1
    have e1' : fX8_least_45 (nI x) (nI L) FU (-9) 0 m = _ := e1
    rw [bo_v b1, e1', b4.2.2.1]
    exact Sim.ret (h.turnA hF hc hm hD hk b2 b3 e2.sc).1
  · rw [if_neg h0, if_neg h0]; exact Sim.ret h
/-! rows -/
def FrR (m v : Mm) : Prop := (∀ p, 2 ≤ p → v.1 p = m.1 p) ∧ (∀ k, k < 1644 → v.1 1 k = m.1 1 k) ∧ (∀ f, f ≠ 12 → v.1 0 f = m.1 0 f) ∧ (∀ k, k ≠ 13 → v.2.1 0 k = m.2.1 0 k)
theorem FamM.frR {F : Fam} {m m' : Mm} (h : FamM F m) (g : FrR m m') : FamM F m' := by
  unfold FamM
  rw [g.2.2.1 1 (by decide), g.2.2.1 3 (by decide), g.2.2.1 7 (by decide), g.1 2 (by decide), g.1 3 (by decide), g.1 4 (by decide), g.1 5 (by decide)]
  exact h
theorem FrR.nextT {m v w : Mm} (h : FrR m v) (g : FrT v w) : FrR m w := ⟨fun p hp => by rw [g.1 p (by omega), h.1 p hp], fun k hk => by rw [g.2.1 k hk, h.2.1 k hk], fun f hf => by rw [g.1 0 (by decide), h.2.2.1 f hf], fun k hk => by rw [g.2.2, h.2.2.2 k hk]⟩
theorem FrR.set {m v : Mm} (h : FrR m v) (u : Int64) (z : Int32) : FrR m (sA (sL v 0 13 u) 0 12 z) := ⟨fun p hp => by rw [sA_ne (by omega)]; exact h.1 p hp, fun k hk => by rw [sA_ne (by decide)]; exact h.2.1 k hk, fun f hf => by rw [sA_eq, upd_ne hf]; exact h.2.2.1 f hf, fun k hk => by show (sL v 0 13 u).2.1 0 k = _; rw [sL_eq, vL_ne hk]; exact h.2.2.2 k hk⟩
theorem m_rows {F : Fam} {d : Dyn} {n : Nat} {m : Mm} (hF : FamOk F) (hm : FamM F m) (hd : DynM 0 d (m.1 1)) (hn : n ≤ 40) (hv : dV d = 0) (hb : Bd n d) {L x : Nat} (hL : L ≤ 5) (hx : x < fP F) (hT : ∀ t, (uptoA F L d x t).2.1 < 8) : ∀ r t N (w : Mm), t + r = (fQ F + 1) ^ L → r < N → FrR m w → w.2.1 0 13 = lN (uptoA F L d x t).1 → w.1 0 12 = nI (uptoA F L d x t).2.1 → ∃ w', fX8_rows_56 (nI x) (nI L) N (nI t) w = some (1, w') ∧ FrR m w' ∧ w'.2.1 0 13 = lN (uptoA F L d x ((fQ F + 1) ^ L)).1 ∧ w'.1 0 12 = nI (uptoA F L d x ((fQ F + 1) ^ L)).2.1 := by
  have hq := hF.q
  have hpw := pw_le (b := fQ F + 1) (j := L) (by omega) hL
  intro r
  induction r with
  | zero =>
    intro t N w ht hN fr h13 h12
    obtain ⟨N, rfl⟩ : ∃ t, N = t + 1 := ⟨N - 1, by omega⟩
    have : t = (fQ F + 1) ^ L := by omega
    rw [fX8_rows_56, bo_v (m_power hF (hm.frR fr) hL), if_pos (nI_le (by omega) (by omega))]
    rw [this] at h13 h12
    exact ⟨w, rfl, fr, h13, h12⟩
  | succ r ih =>
    intro t N w ht hN fr h13 h12
    obtain ⟨N, rfl⟩ : ∃ t, N = t + 1 := ⟨N - 1, by omega⟩
    have hdw : DynM 0 d (w.1 1) := hd.cg (fun t ht => fr.2.1 _ (by omega))
    obtain ⟨w1, g1, g2, g3⟩ := m_isWell hF (hm.frR fr) hdw hb hn hv hL hx (show t < 20000 by omega)
    rw [fX8_rows_56, bo_v (m_power hF (hm.frR fr) hL), if_neg (nI_ge (by omega) (by omega)), bd_v g1]
    unfold fX8_rows_102
    simp only [nm]
    rw [nI_1]
    have fr1 := fr.nextT g2
    have hs := uptoA_s F L d x t
    have hT1 := hT t
    cases hr : rr F L d x t with
    | none =>
      rw [hr] at hs
      rw [show oD none = 0 from rfl, if_pos rfl]
      exact ih (t + 1) N w1 (by omega) (by omega) fr1 (by rw [hs, g2.2.2]; exact h13) (by rw [hs, g2.1 0 (by decide)]; exact h12)
    | some e =>
      obtain ⟨k1, k2⟩ := g3 e hr
      have e7 : w1.1 1 1647 = nI (dT e) := k1.2.2.1
      have e7' : (sL w1 0 13 (w1.2.1 0 13 + 1)).1 1 1647 = nI (dT e) := e7
      have e12 : (sL w1 0 13 (w1.2.1 0 13 + 1)).1 0 12 = nI (uptoA F L d x t).2.1 := by
        show w1.1 0 12 = _
        rw [g2.1 0 (by decide)]; exact h12
      have hd7 := k2.2.1
      rw [hr] at hs
      rw [show oD (some e) = 1 from rfl, if_neg (by decide), e7', e12, (or7 _ (by omega) _ (by omega)).1]
      refine ih (t + 1) N _ (by omega) (by omega) (fr1.set _ _) ?_ ?_
      · show (sL w1 0 13 (w1.2.1 0 13 + 1)).2.1 0 13 = _
        rw [sL_eq, vL_eq, g2.2.2, h13, lN_1, hs]; rfl
      · rw [sA_eq, upd_eq, hs]; rfl
theorem c_tell1 (U : Nat) (hU : U < 2 ^ 63) (c : Mm) : fX7_tellShare (lN U) 1 c = some (sL (sL c 0 10 (lN U)) 0 11 1) := by
  unfold fX7_tellShare fX7_tellShare_E
  have e1 : (1 : Int64) = lN 1 := rfl
  have b : fX7_tellShare_9 (lN U) 1 FU 1 (lN U) 0 c = fX7_tellShare_44 (lN U) 1 (lN 1) c := by
    have hF : FU = 999999999999 + 1 := rfl
    rw [hF, fX7_tellShare_9, if_neg (by decide)]
    by_cases e : U = 0
    · subst e
      rw [if_pos ((lN0 (by decide)).mpr rfl)]
      rfl
    · rw [if_neg (fun q => e ((lN0 hU).mp q)), gdz hU e]
      simp only [nm]
      rw [e1, pk_lRem (by decide) (by omega) hU]
      have hm : 1 % U ≤ 1 := Nat.mod_le 1 U
      have := c_gcd (lN U) (lN 1) c 44 1 999999999999 U (1 % U) (by omega) (by decide) (by decide) hU (by omega)
      rw [← gcd_st 1 U, Nat.gcd_one_left] at this
      exact this
  rw [b]
  unfold fX7_tellShare_44 fX7_tellShare_57
  have d1 : lN U / lN 1 = lN U := by rw [pk_lDiv hU (by decide) (by decide), Nat.div_one]
  have d2 : (1 : Int64) / lN 1 = 1 := by decide
  rw [if_pos (lg_ge.mpr (show (1 : Int64) ≤ lN 1 by decide)), gdz (by decide) (by decide), d1, d2]
  rfl
theorem rr_T {F : Fam} (hF : FamOk F) : ∀ m d p t e, p < fP F → dT d ≤ 7 → rr F m d p t = some e → dT e ≤ 7
  | 0, d, p, t, e, _, h, hr => by rw [rr] at hr; injection hr with hr; subst hr; exact h
  | m + 1, d, p, t, e, hp, h, hr => by
    rw [rr] at hr
    have hlt := dig_lt (b := fQ F + 1) (k := (fQ F + 1) ^ m) (t := t) (by omega)
    generalize t / (fQ F + 1) ^ m % (fQ F + 1) = f at hr hlt
    by_cases h0 : f = 0
    · rw [if_pos h0] at hr
      exact rr_T hF m (eas d) _ t e (nxt_lt hp) h hr
    · rw [if_neg h0] at hr
      by_cases hb : brs F d p f = true
      · rw [if_pos hb] at hr
        have hO := (hF.2.2.2.2.1 (f - 1) (by omega)).2.2
        refine rr_T hF m _ _ t e (nxt_lt hp) ?_ hr
        exact (or7 (dT d) (by omega) (fO F (f - 1)) (by omega)).2
      · rw [if_neg hb] at hr; cases hr
theorem sim_rows {c m : Mm} (h : Rel c m) (x1 x2 : Int32) : Sim (fX7_rows x1 x2 c) (fX8_rows x1 x2 m) := by
  obtain ⟨F, n, hF, hc, hm, hD, hk⟩ := id h.1
  obtain ⟨ho, hz, hd, hB⟩ := id hD
  have hb := rep_Bd hF ho n (Nat.le_refl _)
  have hq := hF.q
  unfold fX7_rows fX7_rows_E fX8_rows fX8_rows_E
  obtain ⟨r, a1, a2, a3⟩ := noTurns_eq hF hc hm hD x1 x2
  rw [bo_v a1, a2]
  by_cases h0 : r = 0
  · rw [if_pos h0, if_pos h0]
    obtain ⟨h1, h2, hv, hQ⟩ := a3 h0
    obtain ⟨x, hx, -, rfl⟩ := inb_ex h1
    obtain ⟨L, hL, -, rfl⟩ := inb_ex h2
    have hT := uptoA_lt F L (rep F (c.1 29) n) x (fun t e he => rr_T hF L _ x t e hx hb.2.1 he)
    have hpw := pw_le (b := fQ F + 1) (j := L) (by omega) (by omega)
    obtain ⟨c', b1, b2, b3, b4⟩ := c_tryAll hF hc hd hb ho.1 hv hx (show L ≤ 5 by omega)
    simp only [nm]
    -- the reference's three
    have f0 : FrR (sL m 0 14 1) (sA (sL (sL m 0 13 0) 0 14 1) 0 12 0) := by
      refine ⟨fun p hp => by rw [sA_ne (by omega)]; rfl, fun k _ => by rw [sA_ne (by decide)]; rfl, fun f hf => by rw [sA_eq, upd_ne hf]; rfl, fun k hk => ?_⟩
      show (sL (sL m 0 13 0) 0 14 1).2.1 0 k = _
      by_cases e : k = 14
      · subst e; rw [sL_eq, vL_eq, sL_eq, vL_eq]
      · rw [sL_eq, vL_ne e, sL_eq, vL_ne hk, sL_eq, vL_ne e]
    obtain ⟨m', e1, e2, e3, e4⟩ := m_rows (m := sL m 0 14 1) hF hm hB.2.1 ho.1 hv hb (show L ≤ 5 by omega) hx (fun t => (hT t).1) ((fQ F + 1) ^ L) 0 FU _ (by omega) (FU_lt (by omega)) f0 (by
      show (sL (sL m 0 13 0) 0 14 1).2.1 0 13 = _
      rw [sL_eq, vL_ne (by decide), sL_eq, vL_eq]; rfl) (by rw [sA_eq, upd_eq]; rfl)
    have e1' : fX8_rows_56 (nI x) (nI L) FU 0 (sA (sL (sL m 0 13 0) 0 14 1) 0 12 0) = some (1, m') := e1
    have hU := (hT ((fQ F + 1) ^ L)).2
    rw [bo_v b1, e1', b4.2.1, show (sA c' 0 9 (nI (uptoA F L (rep F (c.1 29) n) x ((fQ F + 1) ^ L)).2.1)).2.1 39 1 = _ from b4.1, bo_v (c_tell1 _ (by omega) _)]
    have r1 := (h.turnA hF hc hm hD hk b2 b3 (ScM.rfl' m)).1
    have r2 := (r1.tell (nI (uptoA F L (rep F (c.1 29) n) x ((fQ F + 1) ^ L)).2.1)).share (lN (uptoA F L (rep F (c.1 29) n) x ((fQ F + 1) ^ L)).1) 1
    refine Sim.ret (r2.sc (ScC.rfl' _) ⟨fun p h1 h2 => ?_, fun t ht => ?_, fun k hk => ?_, ?_⟩)
    · show m'.1 p = (sA m 0 12 (nI (uptoA F L (rep F (c.1 29) n) x ((fQ F + 1) ^ L)).2.1)).1 p
      rw [e2.1 p h1, sA_ne (by omega)]; rfl
    · rw [e2.2.1 t ht]; rfl
    · show m'.1 0 k = (sA m 0 12 (nI (uptoA F L (rep F (c.1 29) n) x ((fQ F + 1) ^ L)).2.1)).1 0 k
      rw [sA_eq]
      by_cases e : k = 12
      · subst e; rw [upd_eq]; exact e4
      · rw [upd_ne e, e2.2.2.1 k e]; rfl
    · funext k
      by_cases e : k = 14
      · subst e
        rw [e2.2.2.2 14 (by decide), sL_eq, vL_eq, sL_eq, vL_eq]
      · by_cases e' : k = 13
        · subst e'; rw [e3, sL_eq, vL_ne e, sL_eq, vL_eq]
        · rw [e2.2.2.2 k e', sL_eq, vL_ne e, sL_eq, vL_ne e, sL_eq, vL_ne e']; rfl
  · rw [if_neg h0, if_neg h0]; exact Sim.ret h
/-! settle -/
theorem st_put {F : Fam} (hF : FamOk F) {r L T : Nat} (hr : r < 6) (hL : L ≤ 5) (hT : T < 20000) : ∀ k j N M (c m : Mm), j + k = L → k < N → k < M → Rel c m → FamM F m → TrC F L T 0 c → Sim (fX7_settle_83 (nI r) (nI L) N (nI j) c) (fX8_settle_75 (nI r) (nI L) (nI T) M (nI j) m) := by
  have hq := hF.q
  intro k
  induction k with
  | zero =>
    intro j N M c m hj hN hM h hm ht
    obtain ⟨N, rfl⟩ : ∃ t, N = t + 1 := ⟨N - 1, by omega⟩
    obtain ⟨M, rfl⟩ : ∃ t, M = t + 1 := ⟨M - 1, by omega⟩
    rw [fX7_settle_83, fX8_settle_75, if_pos (nI_le (by omega) (by omega)), if_pos (nI_le (by omega) (by omega))]
    exact Sim.ret h
  | succ k ih =>
    intro j N M c m hj hN hM h hm ht
    obtain ⟨N, rfl⟩ : ∃ t, N = t + 1 := ⟨N - 1, by omega⟩
    obtain ⟨M, rfl⟩ : ∃ t, M = t + 1 := ⟨M - 1, by omega⟩
    have hlt := dig_lt (b := fQ F + 1) (k := (fQ F + 1) ^ (L - 1 - j)) (t := T) (by omega)
    have e40 := ht j (by omega) (by omega)
    rw [fX7_settle_83, fX8_settle_75, if_neg (nI_ge (by omega) (by omega)), if_neg (nI_ge (by omega) (by omega)), gd_t (inb_nI hr (by decide)), gd_t (inb_nI (show j < 5 by omega) (by decide)), m_figure hF hm hL (by omega) hT, nI_clamp (show j < 2 ^ 31 by omega), nI_clamp (show r < 2 ^ 31 by omega), e40]
    generalize T / (fQ F + 1) ^ (L - 1 - j) % (fQ F + 1) = f at hlt
    unfold fX7_settle_129 fX8_settle_128
    simp only [nm]
    rw [gd_t (⟨by omega, by omega⟩ : 4 ≤ 4 + r ∧ 4 + r < 10), gd_t (inb_nI (show j < 40 by omega) (by decide)), nI_clamp (show j < 2 ^ 31 by omega), l40, pk_mul, nI_add, gd_t (inb_nI (show 40 * r + j < 240 by omega) (by decide)), nI_clamp (show 40 * r + j < 2 ^ 31 by omega), gd_t (⟨by omega, by omega⟩ : 4 ≤ 4 + r ∧ 4 + r < 10), gd_t (inb_nI (by omega) (by decide)), gd_t (inb_nI (show 40 * r + j < 240 by omega) (by decide)), nI_1]
    have go : ∀ v : Int32, Sim (fX7_settle_83 (nI r) (nI L) N (nI (j + 1)) (sA c (4 + r) j v)) (fX8_settle_75 (nI r) (nI L) (nI T) M (nI (j + 1)) (sA m 7 (40 * r + j) v)) := by
      intro v
      refine ih (j + 1) N M _ _ (by omega) (by omega) (by omega) (h.layRow hr (show j < 40 by omega) v) ?_ ?_
      · unfold FamM
        rw [sA_ne (by decide), sA_ne (by decide), sA_ne (by decide), sA_ne (by decide), sA_ne (by decide)]
        exact hm
      · intro i h1 h2
        rw [sA_ne (by omega)]
        exact ht i h1 h2
    by_cases h0 : f = 0
    · subst h0
      rw [if_pos (show dgI 0 = -1 from rfl), if_pos (show nI 0 = 0 from rfl)]
      exact go _
    · have e : dgI f = nI (f - 1) := if_neg h0
      rw [if_neg (by rw [e]; exact nI_ne_m1 (by omega)), if_neg (nI_ne0 (by omega) (by omega)), e, nI_lit1, pk_sub (by omega)]
      exact go _
/-- the reference looks through the rows of L turns -/
theorem m_look {F : Fam} {d : Dyn} {n : Nat} (hF : FamOk F) (hn : n ≤ 40) (hv : dV d = 0) (hb : Bd n d) {L x : Nat} (hL : L ≤ 5) (hx : x < fP F) (r : Int32) (K : Int32 → Mm → Option (Int32 × Mm)) : ∀ cnt t N (w : Mm), t + cnt = (fQ F + 1) ^ L → cnt < N → FamM F w → DynM 0 d (w.1 1) → uptoS F L d x t = none → ∃ w', FrT w w' ∧ ((uptoS F L d x ((fQ F + 1) ^ L) = none ∧ fX8_settle_45 K (nI x) r (nI L) N (nI t) w = K (nI (L + 1)) w') ∨ ∃ T, T < 20000 ∧ uptoS F L d x ((fQ F + 1) ^ L) = some T ∧ fX8_settle_45 K (nI x) r (nI L) N (nI t) w = bo (fX8_makeRow r (nI L) w') (fun w => fX8_settle_75 r (nI L) (nI T) FU 0 w)) := by
  have hq := hF.q
  have hpw := pw_le (b := fQ F + 1) (j := L) (by omega) hL
  intro cnt
  induction cnt with
  | zero =>
    intro t N w ht hN hm hd hu
    obtain ⟨N, rfl⟩ : ∃ t, N = t + 1 := ⟨N - 1, by omega⟩
    have : t = (fQ F + 1) ^ L := by omega
    rw [this] at hu
    refine ⟨w, FrT.rfl' w, Or.inl ⟨hu, ?_⟩⟩
    rw [fX8_settle_45, bo_v (m_power hF hm hL), if_pos (nI_le (by omega) (by omega)), nI_1]
  | succ cnt ih =>
    intro t N w ht hN hm hd hu
    obtain ⟨N, rfl⟩ : ∃ t, N = t + 1 := ⟨N - 1, by omega⟩
    obtain ⟨w1, g1, g2⟩ := m_settles hF hm hd hb hn hv hL hx (show t < 20000 by omega)
    have hs := uptoS_s F L d x t
    rw [hu] at hs
    rcases g2 with ⟨h1, h2⟩ | ⟨h1, e, h2, h3, h4⟩
    · have hs' : uptoS F L d x (t + 1) = none := by
        rw [hs]
        cases hr : rr F L d x t with
        | none => rfl
        | some e =>
          show (if dT e = 7 then some t else none) = none
          rw [if_neg (h2 e hr)]
      obtain ⟨w2, k1, k2⟩ := ih (t + 1) N w1 (by omega) (by omega) (hm.frT g1) (hd.frT g1) hs'
      refine ⟨w2, g1.trans k1, ?_⟩
      rw [fX8_settle_45, bo_v (m_power hF hm hL), if_neg (nI_ge (by omega) (by omega)), bd_v h1, if_pos rfl, nI_1]
      exact k2
    · have hs' : uptoS F L d x (t + 1) = some t := by
        rw [hs, h2]
        show (if dT e = 7 then some t else none) = some t
        rw [if_pos h3]
      refine ⟨w1, g1, Or.inr ⟨t, by omega, ?_, ?_⟩⟩
      · have := uptoS_keep F L d x hs' cnt
        rw [show t + 1 + cnt = (fQ F + 1) ^ L by omega] at this
        exact this
      · rw [fX8_settle_45, bo_v (m_power hF hm hL), if_neg (nI_ge (by omega) (by omega)), bd_v h1, if_neg (by decide)]
theorem st_loop {F : Fam} {n : Nat} (hF : FamOk F) {x r : Nat} (hx : x < fP F) (hr : r < 6) : ∀ k L N M (c m : Mm), L + k = 6 → k < N → k < M → Rel c m → FamC F c → FamM F m → RelDeeds F n c m → RelKept F c m → dV (rep F (c.1 29) n) = 0 → Sim (fX7_settle_49 (nI x) (nI r) N (nI L) c) (fX8_settle_36 (nI x) (nI r) M (nI L) m) := by
  have hq := hF.q
  have hDEP : DEP = 10 := rfl
  intro k
  induction k with
  | zero =>
    intro L N M c m hL hN hM h hc hm hD hk hv
    obtain ⟨N, rfl⟩ : ∃ t, N = t + 1 := ⟨N - 1, by omega⟩
    obtain ⟨M, rfl⟩ : ∃ t, M = t + 1 := ⟨M - 1, by omega⟩
    have : L = 6 := by omega
    subst this
    rw [fX7_settle_49, fX8_settle_36, if_pos (by decide), if_pos (by decide)]
    exact Sim.ret h
  | succ k ih =>
    intro L N M c m hL hN hM h hc hm hD hk hv
    obtain ⟨N, rfl⟩ : ∃ t, N = t + 1 := ⟨N - 1, by omega⟩
    obtain ⟨M, rfl⟩ : ∃ t, M = t + 1 := ⟨M - 1, by omega⟩
    obtain ⟨ho, hz, hd, hB⟩ := id hD
    have hb := rep_Bd hF ho n (Nat.le_refl _)
    have hpw := pw_le (b := fQ F + 1) (j := L) (by omega) (by omega)
    obtain ⟨c', a1, a2, a3, -, a5⟩ := c_find hF ho.1 (show L ≤ 5 by omega) L 0 DEP _ x 0 c (by omega) (by omega) hc hd hv hb hx
    have a1' : fX6_attemptFrom DEP (nI x) 0 (nI L) 1 c = _ := a1
    rw [ffgS] at a1' a5
    obtain ⟨m', b1, b2⟩ := m_look hF ho.1 hv hb (show L ≤ 5 by omega) hx (nI r) (fX8_settle_36 (nI x) (nI r) M) ((fQ F + 1) ^ L) 0 FU m (by omega) (FU_lt (by omega)) hm hB.2.1 rfl
    obtain ⟨h', hc', hm', hD', hk'⟩ := h.turnA hF hc hm hD hk a2 a3 b1.sc
    rw [fX7_settle_49, fX8_settle_36, if_neg (show ¬ (5 : Int32) < nI L from fun q => absurd ((nI_ltI (a := 5) (by decide) (by omega)).mp q) (by omega)), if_neg (show ¬ (6 : Int32) ≤ nI L from nI_ge (show L < 6 by omega) (by decide))]
    unfold fX6_findFirst fX6_findFirst_E
    rw [bd_v a1']
    rcases b2 with ⟨u1, u2⟩ | ⟨T, u0, u1, u2⟩
    · have u2' : fX8_settle_45 (fX8_settle_36 (nI x) (nI r) M) (nI x) (nI r) (nI L) FU 0 m = _ := u2
      rw [u1, u2', show oI none = 0 from rfl, gd_t (Or.inl rfl), nI_1]
      show Sim (fX7_settle_49 (nI x) (nI r) N (nI (L + 1)) c') _
      exact ih (L + 1) N M c' m' (by omega) (by omega) (by omega) h' hc' hm' hD' hk' (by rw [a3.1 29 (by decide) (by decide) (by decide) (by decide)]; exact hv)
    · have u2' : fX8_settle_45 (fX8_settle_36 (nI x) (nI r) M) (nI x) (nI r) (nI L) FU 0 m = _ := u2
      rw [u1, u2', show oI (some T) = 1 from rfl, gd_t (Or.inr rfl)]
      show Sim (bo (fX5_make_1 (nI r) (nI L) 0 c') (fun w_16 => fX7_settle_83 (nI r) (nI L) FU 0 w_16)) _
      rw [bo_v (c_make1 hr (by omega) 0 c'), bo_v (m_makeRow hr (nI L) m')]
      have hrow := h'.newRow hr (show L ≤ 40 by omega)
      refine st_put hF hr (show L ≤ 5 by omega) u0 L 0 FU FU _ _ (by omega) (FU_lt (by omega)) (FU_lt (by omega)) hrow ?_ ?_
      · unfold FamM
        rw [sF_ne (by decide), sF_ne (by decide), sF_ne (by decide), sF_ne (by decide), sF_ne (by decide), sA_ne (by decide), sA_ne (by decide), sA_ne (by decide), sA_ne (by decide), sA_ne (by decide)]
        exact hm'
      · intro i h1 h2
        rw [sF_ne (by omega), sA_ne (by decide)]
        exact a5 T u1 i h1 h2
theorem sim_settle {c m : Mm} (h : Rel c m) (x1 x2 : Int32) : Sim (fX7_settle x1 x2 c) (fX8_settle x1 x2 m) := by
  obtain ⟨F, n, hF, hc, hm, hD, hk⟩ := id h.1
  obtain ⟨ho, hz, hd, hB⟩ := id hD
  have hb := rep_Bd hF ho n (Nat.le_refl _)
  unfold fX7_settle fX7_settle_E fX8_settle fX8_settle_E
  rw [bo_v (c_isOne hF hc x1), bo_v (m_isOne hF hm x1), if_10, if_10, bo_v (c_num1 x2 c), bo_v (isRow_eq x2), if_10, if_10, bo_v (c_isOver hd hb), bo_v (m_isOver hB.2.1 hb), if_01, if_01, bo_v (c_isEmpty hF hc), if_10]
  by_cases h1 : inb x1 (fP F) = true
  · rw [if_pos h1, if_pos h1]
    by_cases h2 : inb x2 6 = true
    · rw [if_pos h2, if_pos h2]
      by_cases hv : dV (rep F (c.1 29) n) = 0
      · rw [if_pos hv, if_pos hv]
        by_cases he : fQ F = 0
        · rw [if_pos he, if_pos ((q0 hF hm).mpr he)]; exact Sim.ret h
        · rw [if_neg he, if_neg (fun q => he ((q0 hF hm).mp q))]
          obtain ⟨x, hx, -, rfl⟩ := inb_ex h1
          obtain ⟨r, hr, -, rfl⟩ := inb_ex h2
          exact st_loop hF hx hr 6 0 FU FU c m (by omega) (FU_lt (by decide)) (FU_lt (by decide)) h hc hm hD hk hv
      · rw [if_neg hv, if_neg hv]; exact Sim.ret h
    · rw [if_neg h2, if_neg h2]; exact Sim.ret h
  · rw [if_neg h1, if_neg h1]; exact Sim.ret h

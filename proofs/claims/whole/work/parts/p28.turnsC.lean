/-! PURE: rows of turns, the class -/
def dgI (f : Nat) : Int32 := if f = 0 then -1 else nI (f - 1)
theorem dgI_s (f : Nat) : dgI (f + 1) = nI f := by
  unfold dgI
  rw [if_neg (by omega), Nat.add_sub_cancel]
theorem dgI_1 (f : Nat) : dgI f + 1 = nI f := by
  unfold dgI
  by_cases h : f = 0
  · subst h; rw [if_pos rfl]; rfl
  · rw [if_neg h, nI_1, Nat.sub_add_cancel (by omega)]
def FrA (c c' : Mm) : Prop := (∀ p, p ≠ 23 → p ≠ 28 → p ≠ 39 → p ≠ 40 → c'.1 p = c.1 p) ∧ (∀ k, k ≠ 7 → k ≠ 8 → k ≠ 9 → c'.1 23 k = c.1 23 k) ∧ (∀ q, q ≠ 39 → c'.2.1 q = c.2.1 q) ∧ c'.2.2 = c.2.2
theorem FrA.rfl' (c : Mm) : FrA c c := ⟨fun _ _ _ _ _ => rfl, fun _ _ _ _ => rfl, fun _ _ => rfl, rfl⟩
theorem FrA.trans {a b c : Mm} (h : FrA a b) (g : FrA b c) : FrA a c := ⟨fun p h1 h2 h3 h4 => (g.1 p h1 h2 h3 h4).trans (h.1 p h1 h2 h3 h4), fun k h1 h2 h3 => (g.2.1 k h1 h2 h3).trans (h.2.1 k h1 h2 h3), fun q hq => (g.2.2.1 q hq).trans (h.2.2.1 q hq), g.2.2.2.trans h.2.2.2⟩
theorem FrC.a {c c' : Mm} (h : FrC c c') : FrA c c' := ⟨fun p h1 h2 _ _ => h.1 p h1 h2, h.2.1, fun q _ => by rw [h.2.2], by rw [h.2.2]⟩
theorem FamC.frA {F : Fam} {c c' : Mm} (h : FamC F c) (f : FrA c c') : FamC F c' := by
  obtain ⟨h1, h2, h3, h4, h5⟩ := h
  obtain ⟨f1, f2, -⟩ := f
  refine ⟨by rw [f2 0 (by decide) (by decide) (by decide)]; exact h1, by rw [f2 2 (by decide) (by decide) (by decide)]; exact h2, by rw [f2 6 (by decide) (by decide) (by decide)]; exact h3, fun x hx => by rw [f1 24 (by decide) (by decide) (by decide) (by decide)]; exact h4 x hx, fun i hi => ?_⟩
  rw [f1 25 (by decide) (by decide) (by decide) (by decide), f1 26 (by decide) (by decide) (by decide) (by decide), f1 27 (by decide) (by decide) (by decide) (by decide)]
  exact h5 i hi
theorem DynC.cg {d : Dyn} {c c' : Mm} (h : DynC d c) (h23 : c'.1 23 = c.1 23) (h28 : c'.1 28 = c.1 28) : DynC d c' := by
  unfold DynC; rw [h23, h28]; exact h
section PY
variable {F : Fam} {d : Dyn} {c : Mm} {n : Nat}
/-- a turn and its taking back, whatever is done between -/
theorem c_try (hF : FamOk F) (hc : FamC F c) (hd : DynC d c) (hb : Bd n d) (hn : n ≤ 50) (hv : dV d = 0) {p f : Nat} (hp : p < fP F) (hf : f < fQ F + 1) (hbr : f = 0 ∨ brs F d p f = true) :
    ∃ c1, fX2_attempt_23 (nI p) (dgI f) c = some c1 ∧ DynC (if f = 0 then eas d else utt F d p (f - 1)) c1 ∧ FrC c c1 ∧ dV (if f = 0 then eas d else utt F d p (f - 1)) = 0 ∧ Bd (n + 1) (if f = 0 then eas d else utt F d p (f - 1)) ∧ ∀ c2, DynC (if f = 0 then eas d else utt F d p (f - 1)) c2 → ∃ c3, fX2_takeBack_23 (dgI f) (nI (dS d)) (nI (dT d)) c2 = some c3 ∧ DynC d c3 ∧ FrC c2 c3 := by
  have hq := hF.q
  by_cases h0 : f = 0
  · subst h0
    rw [if_pos rfl]
    obtain ⟨c1, a1, a2, a3⟩ := c_ease hd hb (by omega)
    refine ⟨c1, ?_, a2, a3, hv, (eas_Bd hb).up (by omega), fun c2 hd2 => ?_⟩
    · unfold fX2_attempt_23 fX2_attempt_23_E
      rw [show dgI 0 = -1 from rfl, if_pos rfl, bo_id]
      exact a1
    · unfold fX2_takeBack_23 fX2_takeBack_23_E fX2_takeBack_23_15
      rw [show dgI 0 = -1 from rfl, if_pos rfl]
      simp only [nm]
      obtain ⟨h1, h2, h3, h4⟩ := hd2
      refine ⟨_, rfl, ⟨?_, ?_, ?_, fun j hj => ?_⟩, ⟨fun p q1 q2 => ?_, fun k q1 q2 q3 => ?_, rfl⟩⟩
      · rw [sA_eq, upd_ne (by decide), sA_eq, upd_eq]
      · rw [sA_eq, upd_eq]
      · rw [sA_eq, upd_ne (by decide), sA_eq, upd_ne (by decide)]; exact h3
      · rw [sA_ne (by decide), sA_ne (by decide)]; exact h4 j hj
      · rw [sA_ne q1, sA_ne q1]
      · rw [sA_eq, upd_ne q2, sA_eq, upd_ne q1]
  · rw [if_neg h0]
    have hbr : dS d + near F d (f - 1) ≤ fB F p := by
      rcases hbr with h | h
      · exact absurd h h0
      · unfold brs at h; exact of_decide_eq_true h
    have e : dgI f = nI (f - 1) := if_neg h0
    rw [e]
    obtain ⟨c1, a1, a2, a3⟩ := c_attempt hF hc hd hb (by omega) hp (show f - 1 < fQ F by omega) hv
    have hv2 : dV (utt F d p (f - 1)) = 0 := by
      show (if fB F p < dS d + near F d (f - 1) then p + 1 else 0) = 0
      rw [if_neg (by omega)]
    refine ⟨c1, a1, a2, a3, hv2, utt_Bd hF hb (by omega) hp (by omega), fun c2 hd2 => ?_⟩
    exact c_takeBack (d := d) (i := f - 1) (by omega) hd2 (by rw [hv2, hv]) (by
      show (if f - 1 = f - 1 then dN d (f - 1) + 1 else dN d (f - 1)) = _
      rw [if_pos rfl]) (fun j hj => by
      show (if j = f - 1 then dN d j + 1 else dN d j) = _
      rw [if_neg hj])
theorem ge_dgI {Q f : Nat} (hQ : Q < 1000) (hf : f < 1000) : (nI Q ≤ dgI f) ↔ Q + 1 ≤ f := by
  unfold dgI
  by_cases h : f = 0
  · subst h
    rw [if_pos rfl]
    refine ⟨fun q => ?_, fun q => by omega⟩
    rw [Int32.le_iff_toInt_le, nI_toInt (by omega)] at q
    have : (-1 : Int32).toInt = -1 := rfl
    omega
  · rw [if_neg h, nI_leI (by omega) (by omega)]
    omega
theorem c_after {p : Nat} (hF : FamOk F) (hc : FamC F c) (hp : p < fP F) (G : Int32 → Option (Int32 × Mm)) : (if c.1 23 0 ≤ nI p + 1 then G 0 else G (nI p + 1)) = G (nI (nxt F p)) := by
  have := hF.p
  rw [hc.1, nI_1]
  unfold nxt
  by_cases h : p + 1 < fP F
  · rw [if_neg (nI_ge h (by omega)), if_pos h]
  · rw [if_pos (nI_le (by omega) (by omega)), if_neg h]
    rfl
theorem nxt_lt (hp : n < fP F) : nxt F n < fP F := by
  unfold nxt; split <;> omega
def AccC (a : Acc) (c : Mm) : Prop := c.2.1 39 1 = lN a.1 ∧ c.1 39 2 = nI a.2.1 ∧ c.1 39 3 = a.2.2 ∧ a.2.1 < 8
theorem AccC.fr {a : Acc} {c c' : Mm} (h : AccC a c) (f : FrC c c') : AccC a c' := by
  unfold AccC
  rw [f.2.2, f.1 39 (by decide) (by decide)]
  exact h
theorem c_note (hd : DynC d c) (hb : Bd n d) (hn : n ≤ 60) {a : Acc} (ha : AccC a c) (t : Nat) : ∃ c', fX6_noteEnd c = some (0, c') ∧ DynC d c' ∧ AccC (leafA d t a) c' ∧ FrA c c' := by
  have h7 := hb.2.1
  have hS := hb.1
  obtain ⟨a1, a2, a3, a4⟩ := ha
  unfold fX6_noteEnd fX6_noteEnd_E fX6_noteEnd_52
  simp only [nm]
  rw [a1]
  generalize hw2 : sL c 39 1 (lN a.1 + 1) = w2
  have w21 : w2.1 = c.1 := by rw [← hw2]; rfl
  have w2l : w2.2.1 39 1 = lN (a.1 + 1) := by rw [← hw2, sL_eq, vL_eq, lN_1]
  have w2q : ∀ q, q ≠ 39 → w2.2.1 q = c.2.1 q := fun q hq => by rw [← hw2, sL_ne hq]
  have w22 : w2.2.2 = c.2.2 := by rw [← hw2]; rfl
  rw [w21, a2, hd.2.1, (or7 _ (by omega) _ (by omega)).1]
  generalize hw3 : sA w2 39 2 (nI (a.2.1 ||| dT d)) = w3
  have w3p : ∀ p, p ≠ 39 → w3.1 p = c.1 p := fun p hp => by rw [← hw3, sA_ne hp, w21]
  have w32' : w3.1 39 2 = nI (a.2.1 ||| dT d) := by rw [← hw3, sA_eq, upd_eq]
  have w33 : w3.1 39 3 = a.2.2 := by rw [← hw3, sA_eq, upd_ne (by decide), w21]; exact a3
  have w3l : w3.2 = w2.2 := by rw [← hw3]; rfl
  have hd3 : DynC d w3 := hd.cg (w3p 23 (by decide)) (w3p 28 (by decide))
  have fr3 : FrA c w3 := ⟨fun p _ _ h _ => w3p p h, fun k _ _ _ => by rw [w3p 23 (by decide)], fun q hq => by rw [w3l, w2q q hq], by rw [w3l, w22]⟩
  have hor := (or7 a.2.1 (by omega) (dT d) (by omega)).2
  rw [hd3.2.1, hd3.1, w33]
  have keep : ∀ v : Int32, v = a.2.2 → v = (leafA d t a).2.2 → ∃ c', some ((0 : Int32), w3) = some (0, c') ∧ DynC d c' ∧ AccC (leafA d t a) c' ∧ FrA c c' := by
    intro v h1 h2
    exact ⟨w3, rfl, hd3, ⟨by rw [w3l, w2l]; rfl, by rw [w32']; rfl, by rw [w33, ← h1, h2], by show a.2.1 ||| dT d < 8; omega⟩, fr3⟩
  have put : nI (dS d) = (leafA d t a).2.2 → ∃ c', some ((0 : Int32), sA w3 39 3 (nI (dS d))) = some (0, c') ∧ DynC d c' ∧ AccC (leafA d t a) c' ∧ FrA c c' := by
    intro h2
    refine ⟨_, rfl, hd3.cg (sA_ne (by decide)) (sA_ne (by decide)), ⟨?_, ?_, ?_, by show a.2.1 ||| dT d < 8; omega⟩, fr3.trans ⟨fun p _ _ h _ => sA_ne h, fun k _ _ _ => by rw [sA_ne (by decide)], fun _ _ => rfl, rfl⟩⟩
    · show w3.2.1 39 1 = _
      rw [w3l, w2l]; rfl
    · rw [sA_eq, upd_ne (by decide), w32']; rfl
    · rw [sA_eq, upd_eq, h2]
  have e7 : (nI (dT d) = (7 : Int32)) ↔ dT d = 7 := by
    rw [show (7 : Int32) = nI 7 from rfl, nI_eq (by omega) (by decide)]
  by_cases h : dT d = 7
  · rw [if_pos (e7.mpr h)]
    by_cases h9 : a.2.2 = -9
    · rw [if_pos h9]
      exact put (by unfold leafA; rw [if_pos h, if_pos h9])
    · rw [if_neg h9]
      by_cases hl : a.2.2 ≤ nI (dS d)
      · rw [if_pos hl]
        exact keep _ rfl (by unfold leafA; rw [if_pos h, if_neg h9, if_pos hl])
      · rw [if_neg hl]
        exact put (by unfold leafA; rw [if_pos h, if_neg h9, if_neg hl])
  · rw [if_neg (fun q => h (e7.mp q))]
    exact keep _ rfl (by unfold leafA; rw [if_neg h])
/-- all rows -/
theorem c_all (hF : FamOk F) (hn : n ≤ 40) {L : Nat} (hL : L ≤ 5) : ∀ (m turn D : Nat) (d : Dyn) (p t : Nat) (a : Acc) (c : Mm), turn + m = L → m < D → FamC F c → DynC d c → dV d = 0 → Bd (n + turn) d → p < fP F → AccC a c → ∃ c', fX6_attemptFrom D (nI p) (nI turn) (nI L) 0 c = some (0, c') ∧ DynC d c' ∧ AccC (ffg F leafA m d p t a) c' ∧ FrA c c' := by
  have hq := hF.q
  have hP := hF.p
  intro m
  induction m with
  | zero =>
    intro turn D d p t a c ht hD hc hd hv hb hp ha
    obtain ⟨D, rfl⟩ : ∃ t, D = t + 1 := ⟨D - 1, by omega⟩
    rw [fX6_attemptFrom]
    unfold fX6_attemptFrom_E fX6_attemptFrom_11
    rw [if_pos (nI_le (by omega) (by omega)), if_pos rfl]
    obtain ⟨c', g1, g2, g3, g4⟩ := c_note hd hb (by omega) ha t
    rw [bd_v g1, gd_t (Or.inl rfl)]
    exact ⟨c', rfl, g2, g3, g4⟩
  | succ m ih =>
    intro turn D d p t a c ht hD hc hd hv hb hp ha
    obtain ⟨D, rfl⟩ : ∃ t, D = t + 1 := ⟨D - 1, by omega⟩
    rw [fX6_attemptFrom]
    unfold fX6_attemptFrom_E fX6_attemptFrom_56
    rw [if_neg (nI_ge (by omega) (by omega)), if_pos (show nI turn < (5 : Int32) from (nI_ltI (b := 5) (by omega) (by decide)).mpr (by omega)), show (if c.1 23 0 ≤ nI p + 1 then fX6_attemptFrom_61 (fX6_attemptFrom D) (nI p) (nI turn) (nI L) 0 0 FU (-1) c else fX6_attemptFrom_61 (fX6_attemptFrom D) (nI p) (nI turn) (nI L) 0 (nI p + 1) FU (-1) c) = fX6_attemptFrom_61 (fX6_attemptFrom D) (nI p) (nI turn) (nI L) 0 (nI (nxt F p)) FU (-1) c from c_after hF hc hp (fun z => fX6_attemptFrom_61 (fX6_attemptFrom D) (nI p) (nI turn) (nI L) 0 z FU (-1) c)]
    have lp : ∀ cnt f N (a : Acc) (c : Mm), f + cnt = fQ F + 1 → cnt < N → FamC F c → DynC d c → AccC a c → ∃ c', fX6_attemptFrom_61 (fX6_attemptFrom D) (nI p) (nI turn) (nI L) 0 (nI (nxt F p)) N (dgI f) c = some (0, c') ∧ DynC d c' ∧ AccC ((List.range' f cnt).foldl (fun a f => if f = 0 then ffg F leafA m (eas d) (nxt F p) (t * (fQ F + 1) + f) a else if brs F d p f = true then ffg F leafA m (utt F d p (f - 1)) (nxt F p) (t * (fQ F + 1) + f) a else a) a) c' ∧ FrA c c' := by
      intro cnt
      induction cnt with
      | zero =>
        intro f N a c hf hN hc hd ha
        obtain ⟨N, rfl⟩ : ∃ t, N = t + 1 := ⟨N - 1, by omega⟩
        rw [fX6_attemptFrom_61, hc.2.1, if_pos ((ge_dgI (by omega) (by omega)).mpr (by omega))]
        exact ⟨c, rfl, hd, ha, FrA.rfl' c⟩
      | succ cnt ihc =>
        intro f N a c hf hN hc hd ha
        obtain ⟨N, rfl⟩ : ∃ t, N = t + 1 := ⟨N - 1, by omega⟩
        rw [fX6_attemptFrom_61, hc.2.1, if_neg (fun q => by have := (ge_dgI (by omega) (by omega)).mp q; omega), List.range'_succ, List.foldl_cons]
        -- the candidate that is tried
        have tr : (f = 0 ∨ brs F d p f = true) → ∃ c', fX6_attemptFrom_89 (fX6_attemptFrom D) (fX6_attemptFrom_61 (fX6_attemptFrom D) (nI p) (nI turn) (nI L) 0 (nI (nxt F p)) N) (nI p) (nI turn) (nI L) 0 (nI (nxt F p)) (dgI f) c = some (0, c') ∧ DynC d c' ∧ AccC ((List.range' (f + 1) cnt).foldl (fun a f => if f = 0 then ffg F leafA m (eas d) (nxt F p) (t * (fQ F + 1) + f) a else if brs F d p f = true then ffg F leafA m (utt F d p (f - 1)) (nxt F p) (t * (fQ F + 1) + f) a else a) (ffg F leafA m (if f = 0 then eas d else utt F d p (f - 1)) (nxt F p) (t * (fQ F + 1) + f) a)) c' ∧ FrA c c' := by
          intro hbr
          unfold fX6_attemptFrom_89 fX6_attemptFrom_149
          simp only [nm]
          rw [gd_t (inb_nI (show turn < 5 by omega) (by decide)), nI_clamp (show turn < 2 ^ 31 by omega)]
          have fr0 : FrA c (sA c 40 turn (dgI f)) := ⟨fun p _ _ _ h => sA_ne h, fun k _ _ _ => by rw [sA_ne (by decide)], fun _ _ => rfl, rfl⟩
          have hd0 : DynC d (sA c 40 turn (dgI f)) := hd.cg (sA_ne (by decide)) (sA_ne (by decide))
          have ha0 : AccC a (sA c 40 turn (dgI f)) := by
            unfold AccC
            rw [sA_ne (by decide)]
            exact ha
          have hc0 := hc.frA fr0
          generalize sA c 40 turn (dgI f) = c0 at fr0 hd0 ha0 hc0
          obtain ⟨c1, a1, a2, a3, a4, a5, a6⟩ := c_try hF hc0 hd0 hb (by omega) hv hp (show f < fQ F + 1 by omega) hbr
          rw [bo_v a1, nI_1]
          obtain ⟨c2, b1, b2, b3, b4⟩ := ih (turn + 1) D _ (nxt F p) (t * (fQ F + 1) + f) a c1 (by omega) (by omega) (hc0.fr a3) a2 a4 a5 (nxt_lt hp) (ha0.fr a3)
          rw [bd_v b1]
          obtain ⟨c3, e1, e2, e3⟩ := a6 c2 b2
          rw [hd.1, hd.2.1, bo_v e1, if_pos rfl, dgI_1, ← dgI_s]
          obtain ⟨c4, g1, g2, g3, g4⟩ := ihc (f + 1) N _ c3 (by omega) (by omega) (((hc0.fr a3).frA b4).fr e3) e2 (b3.fr e3)
          exact ⟨c4, g1, g2, g3, (((fr0.trans a3.a).trans b4).trans e3.a).trans g4⟩
        by_cases h0 : f = 0
        · subst h0
          rw [if_pos rfl, if_pos (show dgI 0 = -1 from rfl)]
          have := tr (Or.inl rfl)
          rw [if_pos rfl] at this
          exact this
        · rw [if_neg h0, if_neg (show ¬ dgI f = -1 from by unfold dgI; rw [if_neg h0]; exact nI_ne_m1 (by omega))]
          have e : dgI f = nI (f - 1) := if_neg h0
          have hbb := c_bears hF hc hd hb (by omega) hp (show f - 1 < fQ F by omega)
          rw [← e] at hbb
          rw [bo_v hbb, if_10]
          by_cases hbr : brs F d p f = true
          · have hle : dS d + near F d (f - 1) ≤ fB F p := of_decide_eq_true hbr
            rw [if_pos hbr, if_pos hle]
            have := tr (Or.inr hbr)
            rw [if_neg h0] at this
            exact this
          · have hle : ¬ dS d + near F d (f - 1) ≤ fB F p := fun q => hbr (decide_eq_true q)
            rw [if_neg hbr, if_neg hle]
            unfold fX6_attemptFrom_149
            rw [dgI_1, ← dgI_s]
            exact ihc (f + 1) N a c (by omega) (by omega) hc hd ha
    rw [ffg, List.range_eq_range']
    exact lp (fQ F + 1) 0 FU a c (by omega) (FU_lt (by omega)) hc hd ha
def TrC (F : Fam) (L T turn : Nat) (c : Mm) : Prop := ∀ j, turn ≤ j → j < L → c.1 40 j = dgI (T / (fQ F + 1) ^ (L - 1 - j) % (fQ F + 1))
def oI (o : Option Nat) : Int32 := match o with
  | none => 0
  | some _ => 1
def gS (F : Fam) (m : Nat) (d : Dyn) (p t : Nat) (a : Option Nat) (f : Nat) : Option Nat := if f = 0 then ffg F leafS m (eas d) (nxt F p) (t * (fQ F + 1) + f) a else if brs F d p f = true then ffg F leafS m (utt F d p (f - 1)) (nxt F p) (t * (fQ F + 1) + f) a else a
theorem gS_some (m : Nat) (p t r f : Nat) : gS F m d p t (some r) f = some r := by
  unfold gS
  by_cases h0 : f = 0
  · rw [if_pos h0, ffg_some]
  · rw [if_neg h0]
    by_cases hb : brs F d p f = true
    · rw [if_pos hb, ffg_some]
    · rw [if_neg hb]
/-- the first row that settles all -/
theorem c_find (hF : FamOk F) (hn : n ≤ 40) {L : Nat} (hL : L ≤ 5) : ∀ (m turn D : Nat) (d : Dyn) (p t : Nat) (c : Mm), turn + m = L → m < D → FamC F c → DynC d c → dV d = 0 → Bd (n + turn) d → p < fP F → ∃ c', fX6_attemptFrom D (nI p) (nI turn) (nI L) 1 c = some (oI (ffg F leafS m d p t none), c') ∧ DynC d c' ∧ FrA c c' ∧ (∀ j, j < turn → c'.1 40 j = c.1 40 j) ∧ ∀ T, ffg F leafS m d p t none = some T → TrC F L T turn c' := by
  have hq := hF.q
  have hP := hF.p
  intro m
  induction m with
  | zero =>
    intro turn D d p t c ht hD hc hd hv hb hp
    obtain ⟨D, rfl⟩ : ∃ t, D = t + 1 := ⟨D - 1, by omega⟩
    rw [fX6_attemptFrom]
    unfold fX6_attemptFrom_E fX6_attemptFrom_11
    have h7 := hb.2.1
    have e7 : (nI (dT d) = (7 : Int32)) ↔ dT d = 7 := by
      rw [show (7 : Int32) = nI 7 from rfl, nI_eq (by omega) (by decide)]
    rw [if_pos (nI_le (by omega) (by omega)), if_neg (by decide), hd.2.1, ffg]
    unfold leafS
    by_cases h : dT d = 7
    · rw [if_pos (e7.mpr h)]
      simp only [if_pos h]
      exact ⟨c, rfl, hd, FrA.rfl' c, fun _ _ => rfl, fun T _ j h1 h2 => by omega⟩
    · rw [if_neg (fun q => h (e7.mp q))]
      simp only [if_neg h]
      exact ⟨c, rfl, hd, FrA.rfl' c, fun _ _ => rfl, fun T _ j h1 h2 => by omega⟩
  | succ m ih =>
    intro turn D d p t c ht hD hc hd hv hb hp
    obtain ⟨D, rfl⟩ : ∃ t, D = t + 1 := ⟨D - 1, by omega⟩
    rw [fX6_attemptFrom]
    unfold fX6_attemptFrom_E fX6_attemptFrom_56
    rw [if_neg (nI_ge (by omega) (by omega)), if_pos (show nI turn < (5 : Int32) from (nI_ltI (b := 5) (by omega) (by decide)).mpr (by omega)), show (if c.1 23 0 ≤ nI p + 1 then fX6_attemptFrom_61 (fX6_attemptFrom D) (nI p) (nI turn) (nI L) 1 0 FU (-1) c else fX6_attemptFrom_61 (fX6_attemptFrom D) (nI p) (nI turn) (nI L) 1 (nI p + 1) FU (-1) c) = fX6_attemptFrom_61 (fX6_attemptFrom D) (nI p) (nI turn) (nI L) 1 (nI (nxt F p)) FU (-1) c from c_after hF hc hp (fun z => fX6_attemptFrom_61 (fX6_attemptFrom D) (nI p) (nI turn) (nI L) 1 z FU (-1) c)]
    have lp : ∀ cnt f N (c : Mm), f + cnt = fQ F + 1 → cnt < N → FamC F c → DynC d c → ∃ c', fX6_attemptFrom_61 (fX6_attemptFrom D) (nI p) (nI turn) (nI L) 1 (nI (nxt F p)) N (dgI f) c = some (oI ((List.range' f cnt).foldl (gS F m d p t) none), c') ∧ DynC d c' ∧ FrA c c' ∧ (∀ j, j < turn → c'.1 40 j = c.1 40 j) ∧ ∀ T, (List.range' f cnt).foldl (gS F m d p t) none = some T → TrC F L T turn c' := by
      intro cnt
      induction cnt with
      | zero =>
        intro f N c hf hN hc hd
        obtain ⟨N, rfl⟩ : ∃ t, N = t + 1 := ⟨N - 1, by omega⟩
        rw [fX6_attemptFrom_61, hc.2.1, if_pos ((ge_dgI (by omega) (by omega)).mpr (by omega))]
        exact ⟨c, rfl, hd, FrA.rfl' c, fun _ _ => rfl, fun T h => by cases h⟩
      | succ cnt ihc =>
        intro f N c hf hN hc hd
        obtain ⟨N, rfl⟩ : ∃ t, N = t + 1 := ⟨N - 1, by omega⟩
        rw [fX6_attemptFrom_61, hc.2.1, if_neg (fun q => by have := (ge_dgI (by omega) (by omega)).mp q; omega), List.range'_succ, List.foldl_cons]
        have tr : (f = 0 ∨ brs F d p f = true) → ∃ c', fX6_attemptFrom_89 (fX6_attemptFrom D) (fX6_attemptFrom_61 (fX6_attemptFrom D) (nI p) (nI turn) (nI L) 1 (nI (nxt F p)) N) (nI p) (nI turn) (nI L) 1 (nI (nxt F p)) (dgI f) c = some (oI ((List.range' (f + 1) cnt).foldl (gS F m d p t) (gS F m d p t none f)), c') ∧ DynC d c' ∧ FrA c c' ∧ (∀ j, j < turn → c'.1 40 j = c.1 40 j) ∧ ∀ T, (List.range' (f + 1) cnt).foldl (gS F m d p t) (gS F m d p t none f) = some T → TrC F L T turn c' := by
          intro hbr
          have eg : gS F m d p t none f = ffg F leafS m (if f = 0 then eas d else utt F d p (f - 1)) (nxt F p) (t * (fQ F + 1) + f) none := by
            unfold gS
            by_cases h0 : f = 0
            · rw [if_pos h0, if_pos h0]
            · rw [if_neg h0, if_neg h0, if_pos (by rcases hbr with h | h; exact absurd h h0; exact h)]
          unfold fX6_attemptFrom_89 fX6_attemptFrom_149
          simp only [nm]
          rw [gd_t (inb_nI (show turn < 5 by omega) (by decide)), nI_clamp (show turn < 2 ^ 31 by omega)]
          have fr0 : FrA c (sA c 40 turn (dgI f)) := ⟨fun p _ _ _ h => sA_ne h, fun k _ _ _ => by rw [sA_ne (by decide)], fun _ _ => rfl, rfl⟩
          have hd0 : DynC d (sA c 40 turn (dgI f)) := hd.cg (sA_ne (by decide)) (sA_ne (by decide))
          have hc0 := hc.frA fr0
          have t0 : (sA c 40 turn (dgI f)).1 40 turn = dgI f := by rw [sA_eq, upd_eq]
          have tj : ∀ j, j < turn → (sA c 40 turn (dgI f)).1 40 j = c.1 40 j := fun j hj => by rw [sA_eq, upd_ne (by omega)]
          generalize sA c 40 turn (dgI f) = c0 at fr0 hd0 hc0 t0 tj
          obtain ⟨c1, a1, a2, a3, a4, a5, a6⟩ := c_try hF hc0 hd0 hb (by omega) hv hp (show f < fQ F + 1 by omega) hbr
          rw [bo_v a1, nI_1]
          obtain ⟨c2, b1, b2, b3, b4, b5⟩ := ih (turn + 1) D _ (nxt F p) (t * (fQ F + 1) + f) c1 (by omega) (by omega) (hc0.fr a3) a2 a4 a5 (nxt_lt hp)
          rw [← eg] at b1 b5
          rw [bd_v b1]
          obtain ⟨c3, e1, e2, e3⟩ := a6 c2 b2
          rw [hd.1, hd.2.1, bo_v e1]
          have fr3 : FrA c c3 := ((fr0.trans a3.a).trans b3).trans e3.a
          have k40 : ∀ j, j < turn → c3.1 40 j = c.1 40 j := fun j hj => by rw [e3.1 40 (by decide) (by decide), b4 j (by omega), a3.1 40 (by decide) (by decide), tj j hj]
          cases hg : gS F m d p t none f with
          | none =>
            rw [show oI none = 0 from rfl, if_pos rfl, dgI_1, ← dgI_s]
            obtain ⟨c4, g1, g2, g3, g4, g5⟩ := ihc (f + 1) N c3 (by omega) (by omega) (hc.frA fr3) e2
            exact ⟨c4, g1, g2, fr3.trans g3, fun j hj => by rw [g4 j hj, k40 j hj], g5⟩
          | some T =>
            rw [fold_some (fun r f => gS_some m p t r f), show oI (some T) = 1 from rfl, if_neg (by decide)]
            refine ⟨c3, rfl, e2, fr3, k40, fun T' hT' => ?_⟩
            injection hT' with hT'
            subst hT'
            have b5 := b5 T hg
            intro j h1 h2
            by_cases ej : j = turn
            · subst ej
              rw [e3.1 40 (by decide) (by decide), b4 j (by omega), a3.1 40 (by decide) (by decide), t0]
              rw [eg] at hg
              have top := ffg_top F m _ _ _ T hg
              rw [show L - 1 - j = m by omega, top, Nat.mul_comm t, Nat.mul_add_mod, Nat.mod_eq_of_lt (show f < fQ F + 1 by omega)]
            · rw [e3.1 40 (by decide) (by decide)]
              exact b5 j (by omega) h2
        by_cases h0 : f = 0
        · subst h0
          rw [if_pos (show dgI 0 = -1 from rfl)]
          exact tr (Or.inl rfl)
        · rw [if_neg (show ¬ dgI f = -1 from by unfold dgI; rw [if_neg h0]; exact nI_ne_m1 (by omega))]
          have e : dgI f = nI (f - 1) := if_neg h0
          have hbb := c_bears hF hc hd hb (by omega) hp (show f - 1 < fQ F by omega)
          rw [← e] at hbb
          rw [bo_v hbb, if_10]
          by_cases hbr : brs F d p f = true
          · have hle : dS d + near F d (f - 1) ≤ fB F p := of_decide_eq_true hbr
            rw [if_pos hle]
            exact tr (Or.inr hbr)
          · have hle : ¬ dS d + near F d (f - 1) ≤ fB F p := fun q => hbr (decide_eq_true q)
            rw [if_neg hle, show gS F m d p t none f = none from by unfold gS; rw [if_neg h0, if_neg hbr]]
            unfold fX6_attemptFrom_149
            rw [dgI_1, ← dgI_s]
            exact ihc (f + 1) N c (by omega) (by omega) hc hd
    have eF : ffg F leafS (m + 1) d p t none = (List.range' 0 (fQ F + 1)).foldl (gS F m d p t) none := by rw [ffg, List.range_eq_range']; rfl
    rw [eF]
    exact lp (fQ F + 1) 0 FU c (by omega) (FU_lt (by omega)) hc hd
end PY

/-! PURE: by turns, the class -/
def w32 (u : Nat) : Int32 := if u = 0 then -1 else nI (u - 1)
theorem w32_lt : ∀ a, a < 3 → ∀ b, b < 3 → (w32 a < w32 b ↔ a < b) := by decide +kernel
theorem w32_1 : ∀ a, a < 3 → (w32 a = 1 ↔ a = 2) := by decide +kernel
theorem w32_neg : ∀ a, a < 3 → - w32 a = w32 (2 - a) := by decide +kernel
def pl (x y k : Nat) : Nat := if k % 2 = 0 then x else y
theorem pl_2 (x y k : Nat) : pl x y (k + 2) = pl x y k := by
  unfold pl
  rw [Nat.add_mod_right]
/-- how near a saying comes that is said for the first time in this game -/
def nr0 (F : Fam) (N0 : Nat → Nat) (T i : Nat) : Nat := nr (fK F i) (fT F i) (N0 i) (opn T)
def uF (u : Nat → Nat) (U : Nat) : Nat → Nat → Nat → Nat
  | 0, _, b => b
  | c + 1, i, b => uF u U c (i + 1) (if U.testBit i = true then b else max b (u i))
def uv (F : Fam) (N0 : Nat → Nat) (x y : Nat) : Nat → Nat → Nat → Nat → Nat → Nat
  | 0, _, _, _, _ => 1
  | r + 1, k, S, T, U => uF (fun i => if S + nr0 F N0 T i ≤ fB F (pl x y k) then 2 - uv F N0 x y r (k + 1) (S + nr0 F N0 T i) (T ||| fO F i) (U ||| 2 ^ i) else 0) U (fQ F) 0 0
def uo (F : Fam) (N0 : Nat → Nat) (x y r k S T U i : Nat) : Nat := if S + nr0 F N0 T i ≤ fB F (pl x y k) then 2 - uv F N0 x y r (k + 1) (S + nr0 F N0 T i) (T ||| fO F i) (U ||| 2 ^ i) else 0
theorem uv_succ (F : Fam) (N0 : Nat → Nat) (x y r k S T U : Nat) : uv F N0 x y (r + 1) k S T U = uF (uo F N0 x y r k S T U) U (fQ F) 0 0 := rfl
theorem uo_le (F : Fam) (N0 : Nat → Nat) (x y r k S T U i : Nat) : uo F N0 x y r k S T U i ≤ 2 := by
  unfold uo; split <;> omega
theorem uF_le {u : Nat → Nat} {U : Nat} (hu : ∀ i, u i ≤ 2) : ∀ c i b, b ≤ 2 → uF u U c i b ≤ 2
  | 0, _, _, h => h
  | c + 1, i, b, h => uF_le hu c (i + 1) _ (by
    have := hu i
    split <;> omega)
theorem uF_2 {u : Nat → Nat} {U : Nat} (hu : ∀ i, u i ≤ 2) : ∀ c i, uF u U c i 2 = 2
  | 0, _ => rfl
  | c + 1, i => by
    have := hu i
    rw [uF, show (if U.testBit i = true then 2 else max 2 (u i)) = 2 by split <;> omega]
    exact uF_2 hu c (i + 1)
theorem uv_le (F : Fam) (N0 : Nat → Nat) (x y : Nat) : ∀ r k S T U, uv F N0 x y r k S T U ≤ 2
  | 0, _, _, _, _ => by rw [uv]; decide
  | r + 1, k, S, T, U => by rw [uv_succ]; exact uF_le (uo_le F N0 x y r k S T U) _ _ _ (by decide)
section PU
variable {F : Fam} {d : Dyn} {c : Mm} {n : Nat}
theorem c_attempt (hF : FamOk F) (hc : FamC F c) (hd : DynC d c) (hb : Bd n d) (hn : n ≤ 60) {x i : Nat} (hx : x < fP F) (hi : i < fQ F) (hv : dV d = 0) : ∃ c', fX2_attempt_23 (nI x) (nI i) c = some c' ∧ DynC (utt F d x i) c' ∧ FrC c c' := by
  unfold fX2_attempt_23 fX2_attempt_23_E
  have hq := hF.q
  rw [if_neg (nI_ne_m1 (by omega)), bo_id]
  exact c_utter hF hc hd hb hn hx hi hv
/-- a turn taken back -/
theorem c_takeBack {d' : Dyn} {i : Nat} (hi : i < 6) (hd : DynC d' c) (hV : dV d' = dV d) (hi' : dN d' i = dN d i + 1) (hN : ∀ j, j ≠ i → dN d' j = dN d j) : ∃ c', fX2_takeBack_23 (nI i) (nI (dS d)) (nI (dT d)) c = some c' ∧ DynC d c' ∧ FrC c c' := by
  unfold fX2_takeBack_23 fX2_takeBack_23_E fX2_takeBack_23_15
  rw [if_neg (nI_ne_m1 (by omega)), gd_t (inb_nI hi (by decide)), nI_clamp (by omega)]
  simp only [nm]
  obtain ⟨h1, h2, h3, h4⟩ := hd
  refine ⟨_, rfl, ⟨?_, ?_, ?_, fun j hj => ?_⟩, ⟨fun p q1 q2 => ?_, fun k q1 q2 q3 => ?_, rfl⟩⟩
  · rw [sA_eq, upd_ne (by decide), sA_eq, upd_eq]
  · rw [sA_eq, upd_eq]
  · rw [sA_eq, upd_ne (by decide), sA_eq, upd_ne (by decide), sA_ne (by decide), h3, hV]
  · rw [sA_ne (by decide), sA_ne (by decide), sA_eq]
    by_cases e : j = i
    · subst e
      rw [upd_eq, h4 j hj, hi', nI_lit1, pk_sub (by omega), Nat.add_sub_cancel]
    · rw [upd_ne e, h4 j hj, hN j e]
  · rw [sA_ne q1, sA_ne q1, sA_ne q2]
  · rw [sA_eq, upd_ne q2, sA_eq, upd_ne q1, sA_ne (by decide)]
/-- what is known of how things stand in a game -/
def Gm (N0 : Nat → Nat) (S T U : Nat) (d : Dyn) : Prop := dS d = S ∧ dT d = T ∧ dV d = 0 ∧ ∀ i, U.testBit i = false → dN d i = N0 i
theorem Gm.nrr {N0 : Nat → Nat} {S T U : Nat} (h : Gm N0 S T U d) {i : Nat} (hi : U.testBit i = false) : near F d i = nr0 F N0 T i := by
  obtain ⟨h1, h2, h3, h4⟩ := h
  unfold near nr0
  rw [h4 i hi, h2]
theorem Gm.next {N0 : Nat → Nat} {S T U : Nat} (h : Gm N0 S T U d) {x i : Nat} (hi : U.testBit i = false) (hB : S + nr0 F N0 T i ≤ fB F x) : Gm N0 (S + nr0 F N0 T i) (T ||| fO F i) (U ||| 2 ^ i) (utt F d x i) := by
  have hn := h.nrr (F := F) hi
  obtain ⟨h1, h2, h3, h4⟩ := h
  refine ⟨?_, ?_, ?_, fun j hj => ?_⟩
  · show dS d + near F d i = _
    rw [hn, h1]
  · show dT d ||| fO F i = _
    rw [h2]
  · show (if fB F x < dS d + near F d i then x + 1 else 0) = 0
    rw [hn, h1, if_neg (by omega)]
  · show (if j = i then dN d j + 1 else dN d j) = N0 j
    rw [Nat.testBit_or, Nat.testBit_two_pow, Bool.or_eq_false_iff] at hj
    rw [if_neg (by intro e; subst e; exact absurd hj.2 (by simp)), h4 j hj.1]
theorem or_lt6 {U i : Nat} (hU : U < 64) (hi : i < 6) : U ||| 2 ^ i < 64 := Nat.or_lt_two_pow (n := 6) hU (Nat.pow_lt_pow_right (by decide) hi)
theorem pl_lt {x y k P : Nat} (hx : x < P) (hy : y < P) : pl x y k < P := by
  unfold pl; split <;> assumption
/-- the worth of one saying, given the worth of what follows -/
theorem c_worthOf (hF : FamOk F) {x y : Nat} (hx : x < fP F) (hy : y < fP F) {N0 : Nat → Nat} {r k S T U D i : Nat} (hk : k < 6) (hn : n ≤ 40) (hc : FamC F c) (hd : DynC d c) (hb : Bd (n + k) d) (hG : Gm N0 S T U d) (hU : U < 64) (hi : i < fQ F) (hUi : U.testBit i = false)
    (ih : ∀ (S T U : Nat) (d : Dyn) (c : Mm), FamC F c → DynC d c → Bd (n + (k + 1)) d → Gm N0 S T U d → U < 64 → ∃ c', fX1_worth D (nI (pl x y (k + 1))) (nI (pl x y (k + 2))) (nI U) (nI (k + 1)) c = some (w32 (uv F N0 x y r (k + 1) S T U), c') ∧ DynC d c' ∧ FrC c c') :
    ∃ c', fX1_worthOf (fX1_worth D) (nI (pl x y k)) (nI (pl x y (k + 1))) (nI i) (nI U) (nI k) c = some (w32 (uo F N0 x y r k S T U i), c') ∧ DynC d c' ∧ FrC c c' := by
  unfold fX1_worthOf fX1_worthOf_E uo
  have hq := hF.q
  have hpl : pl x y k < fP F := pl_lt hx hy
  have hnr := hG.nrr (F := F) hUi
  rw [bo_v (c_bears hF hc hd hb (by omega) hpl hi), if_10, hnr, hG.1]
  by_cases hB : S + nr0 F N0 T i ≤ fB F (pl x y k)
  · rw [if_pos hB, if_pos hB]
    simp only [nm]
    obtain ⟨c1, a1, a2, a3⟩ := c_attempt hF hc hd hb (by omega) hpl hi hG.2.2.1
    rw [bo_v a1, sh1 i (by omega), fa_or, nI_1]
    obtain ⟨c2, b1, b2, b3⟩ := ih (S + nr0 F N0 T i) (T ||| fO F i) (U ||| 2 ^ i) (utt F d (pl x y k) i) c1 (hc.fr a3) a2 (by
      have := utt_Bd hF hb (by omega) hpl hi
      exact this) (hG.next hUi hB) (or_lt6 hU (by omega))
    rw [pl_2] at b1
    rw [bd_v b1]
    obtain ⟨c3, e1, e2, e3⟩ := c_takeBack (d := d) (i := i) (by omega) b2 (by
      rw [(hG.next hUi hB (F := F) (x := pl x y k)).2.2.1, hG.2.2.1]) (by
      show (if i = i then dN d i + 1 else dN d i) = _
      rw [if_pos rfl]) (fun j hj => by
      show (if j = i then dN d j + 1 else dN d j) = _
      rw [if_neg hj])
    rw [hd.1, hd.2.1, bo_v e1, w32_neg _ (by have := uv_le F N0 x y r (k + 1) (S + nr0 F N0 T i) (T ||| fO F i) (U ||| 2 ^ i); omega)]
    exact ⟨c3, rfl, e2, (a3.trans b3).trans e3⟩
  · rw [if_neg hB, if_neg hB]
    exact ⟨c, rfl, hd, FrC.rfl' c⟩
theorem c_worth (hF : FamOk F) {x y : Nat} (hx : x < fP F) (hy : y < fP F) {N0 : Nat → Nat} (hn : n ≤ 40) : ∀ (r k D S T U : Nat) (d : Dyn) (c : Mm), k + r = fQ F → r < D → FamC F c → DynC d c → Bd (n + k) d → Gm N0 S T U d → U < 64 → ∃ c', fX1_worth D (nI (pl x y k)) (nI (pl x y (k + 1))) (nI U) (nI k) c = some (w32 (uv F N0 x y r k S T U), c') ∧ DynC d c' ∧ FrC c c' := by
  have hq := hF.q
  intro r
  induction r with
  | zero =>
    intro k D S T U d c hk hD hc hd hb hG hU
    obtain ⟨D, rfl⟩ : ∃ t, D = t + 1 := ⟨D - 1, by omega⟩
    rw [fX1_worth]
    unfold fX1_worth_E
    rw [hc.2.1, if_pos (nI_le (by omega) (by omega))]
    exact ⟨c, rfl, hd, FrC.rfl' c⟩
  | succ r ih =>
    intro k D S T U d c hk hD hc hd hb hG hU
    obtain ⟨D, rfl⟩ : ∃ t, D = t + 1 := ⟨D - 1, by omega⟩
    rw [fX1_worth]
    unfold fX1_worth_E
    rw [hc.2.1, if_neg (nI_ge (by omega) (by omega)), if_pos (show nI k < (6 : Int32) from (nI_ltI (b := 6) (by omega) (by decide)).mpr (by omega)), uv_succ]
    have lp : ∀ cnt i N b (c : Mm), i + cnt = fQ F → cnt < N → b ≤ 2 → FamC F c → DynC d c → ∃ c', fX1_worth_24 (fX1_worth D) (nI (pl x y k)) (nI (pl x y (k + 1))) (nI U) (nI k) N (w32 b) (nI i) c = some (w32 (uF (uo F N0 x y r k S T U) U cnt i b), c') ∧ DynC d c' ∧ FrC c c' := by
      intro cnt
      induction cnt with
      | zero =>
        intro i N b c hi hN hb2 hc hd
        obtain ⟨N, rfl⟩ : ∃ t, N = t + 1 := ⟨N - 1, by omega⟩
        rw [fX1_worth_24, hc.2.1, if_pos (nI_le (by omega) (by omega))]
        exact ⟨c, rfl, hd, FrC.rfl' c⟩
      | succ cnt ihc =>
        intro i N b c hi hN hb2 hc hd
        obtain ⟨N, rfl⟩ : ∃ t, N = t + 1 := ⟨N - 1, by omega⟩
        rw [fX1_worth_24, hc.2.1, if_neg (nI_ge (by omega) (by omega))]
        by_cases e2 : b = 2
        · subst e2
          rw [if_pos ((w32_1 2 (by decide)).mpr rfl), uF_2 (uo_le F N0 x y r k S T U)]
          exact ⟨c, rfl, hd, FrC.rfl' c⟩
        · rw [if_neg (fun q => e2 ((w32_1 b (by omega)).mp q)), sh1 i (by omega), uF]
          unfold fX1_worth_66
          rw [nI_1]
          by_cases hUi : U.testBit i = true
          · rw [if_neg (fun q => by rw [(fa_bit (by omega)).mp q] at hUi; exact absurd hUi (by decide)), if_pos hUi]
            exact ihc (i + 1) N b c (by omega) (by omega) hb2 hc hd
          · have hUi' : U.testBit i = false := by simpa using hUi
            rw [if_pos ((fa_bit (by omega)).mpr hUi'), if_neg hUi]
            obtain ⟨c1, a1, a2, a3⟩ := c_worthOf (D := D) (r := r) hF hx hy (by omega) hn hc hd hb hG hU (show i < fQ F by omega) hUi' (fun S T U d c hc hd hb hG hU => ih (k + 1) D S T U d c (by omega) (by omega) hc hd hb hG hU)
            have hu := uo_le F N0 x y r k S T U i
            rw [bd_v a1]
            simp only [nm]
            have em : (if w32 b < w32 (uo F N0 x y r k S T U i) then w32 (uo F N0 x y r k S T U i) else w32 b) = w32 (max b (uo F N0 x y r k S T U i)) := by
              by_cases g : b < uo F N0 x y r k S T U i
              · rw [if_pos ((w32_lt b (by omega) _ (by omega)).mpr g), show max b (uo F N0 x y r k S T U i) = uo F N0 x y r k S T U i by omega]
              · rw [if_neg (fun q => g ((w32_lt b (by omega) _ (by omega)).mp q)), show max b (uo F N0 x y r k S T U i) = b by omega]
            rw [em]
            obtain ⟨c2, b1, b2, b3⟩ := ihc (i + 1) N (max b (uo F N0 x y r k S T U i)) c1 (by omega) (by omega) (by omega) (hc.fr a3) a2
            exact ⟨c2, b1, b2, a3.trans b3⟩
    exact lp (fQ F) 0 FU 0 c (by omega) (FU_lt (by omega)) (by decide) hc hd
/-- the first of the best -/
def oF (u : Nat → Nat) : Nat → Nat → Nat → Nat → Nat
  | 0, _, o, _ => o
  | c + 1, i, o, b => if b < u i then oF u c (i + 1) i (u i) else oF u c (i + 1) o b
theorem c_first (hF : FamOk F) {x y : Nat} (hx : x < fP F) (hy : y < fP F) {N0 : Nat → Nat} {S T r : Nat} (hn : n ≤ 40) (hr : r + 1 = fQ F) (hb : Bd n d) (hG : Gm N0 S T 0 d) : ∀ cnt i N o b (c : Mm), i + cnt = fQ F → cnt < N → b ≤ 2 → FamC F c → DynC d c → ∃ c', fX1_firstBest_8 (fX1_worth DEP) (nI x) (nI y) N (nI o) (w32 b) (nI i) c = some (nI (oF (uo F N0 x y r 0 S T 0) cnt i o b), c') ∧ DynC d c' ∧ FrC c c' := by
  have hq := hF.q
  have hDEP : DEP = 10 := rfl
  intro cnt
  induction cnt with
  | zero =>
    intro i N o b c hi hN hb2 hc hd
    obtain ⟨N, rfl⟩ : ∃ t, N = t + 1 := ⟨N - 1, by omega⟩
    rw [fX1_firstBest_8, hc.2.1, if_pos (nI_le (by omega) (by omega))]
    exact ⟨c, rfl, hd, FrC.rfl' c⟩
  | succ cnt ihc =>
    intro i N o b c hi hN hb2 hc hd
    obtain ⟨N, rfl⟩ : ∃ t, N = t + 1 := ⟨N - 1, by omega⟩
    obtain ⟨c1, a1, a2, a3⟩ := c_worthOf (D := DEP) (r := r) (k := 0) (U := 0) hF hx hy (by omega) hn hc hd hb hG (by decide) (show i < fQ F by omega) (Nat.zero_testBit i) (fun S T U d c hc hd hb hG hU => c_worth hF hx hy hn r 1 DEP S T U d c (by omega) (by omega) hc hd hb hG hU)
    have a1' : fX1_worthOf (fX1_worth DEP) (nI x) (nI y) (nI i) 0 0 c = some (w32 (uo F N0 x y r 0 S T 0 i), c1) := a1
    have hu := uo_le F N0 x y r 0 S T 0 i
    rw [fX1_firstBest_8, hc.2.1, if_neg (nI_ge (by omega) (by omega)), bd_v a1', oF]
    unfold fX1_firstBest_43
    rw [nI_1]
    by_cases g : b < uo F N0 x y r 0 S T 0 i
    · rw [if_neg (Int32.not_le.mpr ((w32_lt b (by omega) _ (by omega)).mpr g)), if_pos g]
      obtain ⟨c2, b1, b2, b3⟩ := ihc (i + 1) N i (uo F N0 x y r 0 S T 0 i) c1 (by omega) (by omega) hu (hc.fr a3) a2
      exact ⟨c2, b1, b2, a3.trans b3⟩
    · rw [if_pos (Int32.not_lt.mp (fun q => g ((w32_lt b (by omega) _ (by omega)).mp q))), if_neg g]
      obtain ⟨c2, b1, b2, b3⟩ := ihc (i + 1) N o b c1 (by omega) (by omega) hb2 (hc.fr a3) a2
      exact ⟨c2, b1, b2, a3.trans b3⟩
end PU

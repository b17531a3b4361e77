/-! PURE: rows of turns, the reference -/
theorem FrT.sc {m v : Mm} (h : FrT m v) : ScM m v := ⟨fun p h1 h2 => h.1 p (by omega), h.2.1, fun k hk => by rw [h.1 0 (by decide)], by rw [h.2.2]⟩
theorem FrT.trans {a b c : Mm} (h : FrT a b) (g : FrT b c) : FrT a c := ⟨fun p hp => (g.1 p hp).trans (h.1 p hp), fun k hk => (g.2.1 k hk).trans (h.2.1 k hk), g.2.2.trans h.2.2⟩
theorem FrT.rfl' (a : Mm) : FrT a a := ⟨fun _ _ => rfl, fun _ _ => rfl, rfl⟩
theorem pw_le {b j : Nat} (hb : b ≤ 7) (hj : j ≤ 5) : b ^ j ≤ 16807 := by
  have h1 : b ^ j ≤ 7 ^ j := Nat.pow_le_pow_left hb j
  have h2 : 7 ^ j ≤ 7 ^ 5 := Nat.pow_le_pow_right (by decide) hj
  have h3 : 7 ^ 5 = 16807 := by decide
  omega
theorem m_power {F : Fam} {m : Mm} (hF : FamOk F) (hm : FamM F m) {j : Nat} (hj : j ≤ 5) : fX8_power (nI j) m = some (nI ((fQ F + 1) ^ j)) := by
  unfold fX8_power fX8_power_E
  have hq := hF.q
  have lp : ∀ r k N, k + r = j → r < N → fX8_power_4 (nI j) m N (nI ((fQ F + 1) ^ k)) (nI k) = some (nI ((fQ F + 1) ^ j)) := by
    intro r
    induction r with
    | zero =>
      intro k N hk hN
      obtain ⟨N, rfl⟩ : ∃ t, N = t + 1 := ⟨N - 1, by omega⟩
      have : k = j := by omega
      subst this
      rw [fX8_power_4, if_pos (nI_le (Nat.le_refl _) (by omega))]
    | succ r ih =>
      intro k N hk hN
      obtain ⟨N, rfl⟩ : ∃ t, N = t + 1 := ⟨N - 1, by omega⟩
      rw [fX8_power_4, if_neg (nI_ge (by omega) (by omega)), hm.2.1, nI_1, pk_mul, ← Nat.pow_succ]
      simp only [nm]
      rw [nI_1]
      exact ih (k + 1) N (by omega) (by omega)
  exact lp j 0 FU (by omega) (FU_lt (by omega))
def oD (o : Option Dyn) : Int32 := match o with
  | none => 0
  | some _ => 1
theorem nxt_mod {F : Fam} (hF : FamOk F) {x k : Nat} (h0 : 0 < fP F) : (x + (k + 1)) % fP F = nxt F ((x + k) % fP F) := by
  have h1 := Nat.mod_lt (x + k) h0
  unfold nxt
  rw [← Nat.add_assoc, Nat.add_mod]
  by_cases h : (x + k) % fP F + 1 < fP F
  · rw [if_pos h, Nat.mod_eq_of_lt (show 1 < fP F by omega), Nat.mod_eq_of_lt h]
  · rw [if_neg h]
    by_cases h2 : fP F = 1
    · rw [h2, Nat.mod_one]
    · rw [Nat.mod_eq_of_lt (show 1 < fP F by omega), show (x + k) % fP F + 1 = fP F by omega, Nat.mod_self]
theorem dig_lt {b k t : Nat} (hb : 0 < b) : t / k % b < b := Nat.mod_lt _ hb
section PZ
variable {F : Fam} {d : Dyn} {m : Mm} {n : Nat}
theorem m_figure (hF : FamOk F) (hm : FamM F m) {L k t : Nat} (hL : L ≤ 5) (hk : k < L) (ht : t < 20000) {α : Type} (K : Int32 → Option α) : bo (fX8_power ((nI L - 1) - nI k) m) (fun r => gd (¬ r = 0) (gd (¬ ((m.1 0 3) + 1) = 0) (nm ((nI t / r) - (nI t / r) / ((m.1 0 3) + 1) * ((m.1 0 3) + 1)) K))) = K (nI (t / (fQ F + 1) ^ (L - 1 - k) % (fQ F + 1))) := by
  have hq := hF.q
  have hp := pw_le (b := fQ F + 1) (j := L - 1 - k) (by omega) (by omega)
  have h0 : 0 < (fQ F + 1) ^ (L - 1 - k) := Nat.pow_pos (by omega)
  have hd : t / (fQ F + 1) ^ (L - 1 - k) ≤ t := Nat.div_le_self _ _
  rw [nI_lit1, pk_sub (by omega), pk_sub (by omega), bo_v (m_power hF hm (by omega)), ← nI_lit1, hm.2.1, nI_1, gd_t (nI_ne0 (by omega) (by omega)), gd_t (nI_ne0 (by omega) (by omega)), pk_div (by omega) h0 (by omega), pk_rem (by omega) (by omega) (by omega)]
  rfl
theorem m_wellLoop (hF : FamOk F) (hn : n ≤ 40) {L x t : Nat} (hL : L ≤ 5) (hx : x < fP F) (ht : t < 20000) : ∀ r k N (d : Dyn) (w : Mm), k + r = L → r < N → FamM F w → DynM 1644 d (w.1 1) → dV d = 0 → Bd (n + k) d → ∃ w', fX8_isWell_7 (nI x) (nI L) (nI t) N (nI k) w = some (oD (rr F r d ((x + k) % fP F) t), w') ∧ FrT w w' ∧ ∀ e, rr F r d ((x + k) % fP F) t = some e → DynM 1644 e (w'.1 1) ∧ Bd (n + L) e := by
  have hq := hF.q
  have hP := hF.p
  intro r
  induction r with
  | zero =>
    intro k N d w hk hN hm hd hv hb
    obtain ⟨N, rfl⟩ : ∃ t, N = t + 1 := ⟨N - 1, by omega⟩
    have : k = L := by omega
    subst this
    rw [fX8_isWell_7, if_pos (nI_le (Nat.le_refl _) (by omega)), rr]
    exact ⟨w, rfl, FrT.rfl' w, fun e he => by injection he with he; subst he; exact ⟨hd, hb⟩⟩
  | succ r ih =>
    intro k N d w hk hN hm hd hv hb
    obtain ⟨N, rfl⟩ : ∃ t, N = t + 1 := ⟨N - 1, by omega⟩
    have hlt := dig_lt (b := fQ F + 1) (k := (fQ F + 1) ^ (L - 1 - k)) (t := t) (by omega)
    have hpm := Nat.mod_lt (x + k) (show 0 < fP F by omega)
    rw [fX8_isWell_7, if_neg (nI_ge (by omega) (by omega)), m_figure hF hm hL (by omega) ht, rr, show r = L - 1 - k by omega]
    rw [show L - 1 - k = r by omega] at *
    generalize t / (fQ F + 1) ^ r % (fQ F + 1) = f at hlt
    have e1644 : (1644 : Int32) = nI 1644 := rfl
    have check : ∀ (d' : Dyn) (w' : Mm), FrT w w' → DynM 1644 d' (w'.1 1) → Bd (n + (k + 1)) d' → ∃ w'', fX8_isWell_69 (fX8_isWell_7 (nI x) (nI L) (nI t) N) (nI x) (nI L) (nI t) (nI k) w' = some (oD (if dV d' = 0 then rr F r d' (nxt F ((x + k) % fP F)) t else none), w'') ∧ FrT w w'' ∧ ∀ e, (if dV d' = 0 then rr F r d' (nxt F ((x + k) % fP F)) t else none) = some e → DynM 1644 e (w''.1 1) ∧ Bd (n + L) e := by
      intro d' w' fr hd' hb'
      unfold fX8_isWell_69
      have e8 : w'.1 1 1648 = ovI (dV d') := hd'.2.2.2.1
      rw [e8, nI_1]
      by_cases h : dV d' = 0
      · rw [if_pos ((ov9 hb'.2.2.1).mpr h), if_pos h, ← nxt_mod hF (by omega)]
        obtain ⟨w2, g1, g2, g3⟩ := ih (k + 1) N d' w' (by omega) (by omega) (hm.frT fr) hd' h hb'
        exact ⟨w2, g1, fr.trans g2, g3⟩
      · rw [if_neg (fun q => h ((ov9 hb'.2.2.1).mp q)), if_neg h]
        exact ⟨w', rfl, fr, fun e he => by cases he⟩
    by_cases h0 : f = 0
    · subst h0
      rw [if_pos (show nI 0 = 0 from rfl), if_pos rfl]
      obtain ⟨w1, a1, a2, a3⟩ := m_eases (b := 1644) hd hb (by omega) (by decide)
      have a1' : fX8_eases 1644 w = some w1 := a1
      rw [bo_v a1']
      have := check (eas d) w1 ((FrT.rfl' w).next a3) a2 ((eas_Bd hb).up (by omega))
      rw [if_pos (show dV (eas d) = 0 from hv)] at this
      exact this
    · rw [if_neg (nI_ne0 (by omega) (by omega)), if_neg h0]
      obtain ⟨w1, a1, a2, a3⟩ := m_says (b := 1644) hF hm hd hb (by omega) (by decide) hpm (show f - 1 < fQ F by omega)
      have a1' : fX8_says 1644 (nI ((x + k) % fP F)) (nI (f - 1)) w = some w1 := a1
      rw [hm.1, gd_t (nI_ne0 (by omega) (by omega)), nI_add, pk_rem (by omega) (by omega) (by omega), nI_lit1, pk_sub (by omega), bo_v a1']
      have := check (utt F d ((x + k) % fP F) (f - 1)) w1 ((FrT.rfl' w).next a3) a2 (utt_Bd hF hb (by omega) hpm (by omega))
      have ev : dV (utt F d ((x + k) % fP F) (f - 1)) = if fB F ((x + k) % fP F) < dS d + near F d (f - 1) then (x + k) % fP F + 1 else 0 := rfl
      by_cases hb' : brs F d ((x + k) % fP F) f = true
      · have hle : dS d + near F d (f - 1) ≤ fB F ((x + k) % fP F) := of_decide_eq_true hb'
        rw [if_pos hb']
        rw [if_pos (show dV (utt F d ((x + k) % fP F) (f - 1)) = 0 by rw [ev, if_neg (by omega)])] at this
        exact this
      · have hle : ¬ dS d + near F d (f - 1) ≤ fB F ((x + k) % fP F) := fun q => hb' (decide_eq_true q)
        rw [if_neg hb']
        rw [if_neg (show ¬ dV (utt F d ((x + k) % fP F) (f - 1)) = 0 by rw [ev, if_pos (by omega)]; omega)] at this
        exact this
theorem m_isWell (hF : FamOk F) (hm : FamM F m) (hd : DynM 0 d (m.1 1)) (hb : Bd n d) (hn : n ≤ 40) (hv : dV d = 0) {L x t : Nat} (hL : L ≤ 5) (hx : x < fP F) (ht : t < 20000) : ∃ m', fX8_isWell (nI x) (nI L) (nI t) m = some (oD (rr F L d x t), m') ∧ FrT m m' ∧ ∀ e, rr F L d x t = some e → DynM 1644 e (m'.1 1) ∧ Bd (n + L) e := by
  unfold fX8_isWell fX8_isWell_E
  rw [bo_v (m_layTried m)]
  have fr : FrT m (sF m 1 (fun t => if 1644 ≤ t ∧ t < 1644 + 11 then m.1 1 (0 + (t - 1644)) else m.1 1 t)) := ⟨fun p hp => sF_ne hp, fun k hk => by rw [sF_eq, if_neg (by omega)], rfl⟩
  obtain ⟨w', g1, g2, g3⟩ := m_wellLoop hF hn hL hx ht L 0 FU d _ (by omega) (FU_lt (by omega)) (hm.frT fr) (hd.cg (fun t ht => by rw [sF_eq, if_pos (by omega), show 0 + (1644 + 1 + t - 1644) = 0 + 1 + t by omega])) hv hb
  rw [show (x + 0) % fP F = x from Nat.mod_eq_of_lt hx] at g1 g3
  exact ⟨w', g1, fr.trans g2, g3⟩
end PZ

/-! PURE: rows of turns: what they are -/
def nxt (F : Fam) (p : Nat) : Nat := if p + 1 < fP F then p + 1 else 0
def brs (F : Fam) (d : Dyn) (p f : Nat) : Bool := decide (dS d + near F d (f - 1) ≤ fB F p)
/-- a row of m turns by its number: how things stand behind it, if nobody is over -/
def rr (F : Fam) : Nat → Dyn → Nat → Nat → Option Dyn
  | 0, d, _, _ => some d
  | m + 1, d, p, t => if t / (fQ F + 1) ^ m % (fQ F + 1) = 0 then rr F m (eas d) (nxt F p) t else if brs F d p (t / (fQ F + 1) ^ m % (fQ F + 1)) = true then rr F m (utt F d p (t / (fQ F + 1) ^ m % (fQ F + 1) - 1)) (nxt F p) t else none
/-- all rows of m turns in their order; t is what stands ahead of them -/
def ffg {σ : Type} (F : Fam) (leaf : Dyn → Nat → σ → σ) : Nat → Dyn → Nat → Nat → σ → σ
  | 0, d, _, t, a => leaf d t a
  | m + 1, d, p, t, a => (List.range (fQ F + 1)).foldl (fun a f => if f = 0 then ffg F leaf m (eas d) (nxt F p) (t * (fQ F + 1) + f) a else if brs F d p f = true then ffg F leaf m (utt F d p (f - 1)) (nxt F p) (t * (fQ F + 1) + f) a else a) a
theorem fold_id {σ : Type} (a : σ) : ∀ l : List Nat, l.foldl (fun a _ => a) a = a
  | [] => rfl
  | _ :: l => fold_id a l
theorem fold_mul {σ : Type} (k : Nat) (g : σ → Nat → σ) : ∀ b a, (List.range (b * k)).foldl g a = (List.range b).foldl (fun a f => (List.range k).foldl (fun a s => g a (f * k + s)) a) a
  | 0, a => by rw [Nat.zero_mul]; rfl
  | b + 1, a => by
    rw [Nat.succ_mul, List.range_add, List.foldl_append, fold_mul k g b a, List.range_succ, List.foldl_append, List.foldl_map]
    rfl
theorem fold_cong {σ : Type} {g h : σ → Nat → σ} : ∀ (l : List Nat) (a : σ), (∀ a t, t ∈ l → g a t = h a t) → l.foldl g a = l.foldl h a
  | [], _, _ => rfl
  | x :: l, a, H => by
    rw [List.foldl_cons, List.foldl_cons, H a x (List.mem_cons_self ..)]
    exact fold_cong l _ (fun a t ht => H a t (List.mem_cons_of_mem _ ht))
/-- only the last m figures tell -/
theorem rr_mod (F : Fam) : ∀ m d p t t', t % (fQ F + 1) ^ m = t' % (fQ F + 1) ^ m → rr F m d p t = rr F m d p t'
  | 0, _, _, _, _, _ => rfl
  | m + 1, d, p, t, t', h => by
    have e1 : t / (fQ F + 1) ^ m % (fQ F + 1) = t' / (fQ F + 1) ^ m % (fQ F + 1) := by
      have := congrArg (fun z => z / (fQ F + 1) ^ m) h
      simp only [Nat.pow_succ] at this
      rw [Nat.mod_mul_right_div_self, Nat.mod_mul_right_div_self] at this
      exact this
    have e2 : t % (fQ F + 1) ^ m = t' % (fQ F + 1) ^ m := by
      have := congrArg (fun z => z % (fQ F + 1) ^ m) h
      simp only [Nat.pow_succ] at this
      rw [Nat.mod_mul_right_mod, Nat.mod_mul_right_mod] at this
      exact this
    rw [rr, rr, e1, rr_mod F m _ _ t t' e2, rr_mod F m (utt F d p _) _ t t' e2]
def lf {σ : Type} (leaf : Dyn → Nat → σ → σ) (o : Option Dyn) (t : Nat) (a : σ) : σ := match o with
  | none => a
  | some e => leaf e t a
theorem ffg_eq {σ : Type} (F : Fam) (leaf : Dyn → Nat → σ → σ) : ∀ m d p t a, ffg F leaf m d p t a = (List.range ((fQ F + 1) ^ m)).foldl (fun a s => lf leaf (rr F m d p s) (t * (fQ F + 1) ^ m + s) a) a
  | 0, d, p, t, a => by
    rw [ffg, Nat.pow_zero, Nat.mul_one]
    rfl
  | m + 1, d, p, t, a => by
    rw [ffg, Nat.pow_succ, Nat.mul_comm ((fQ F + 1) ^ m), fold_mul]
    refine fold_cong _ _ (fun a f hf => ?_)
    have hf := List.mem_range.mp hf
    have hpos : 0 < (fQ F + 1) ^ m := Nat.pow_pos (by omega)
    have dg : ∀ s, s < (fQ F + 1) ^ m → (f * (fQ F + 1) ^ m + s) / (fQ F + 1) ^ m % (fQ F + 1) = f := by
      intro s hs
      rw [Nat.mul_comm f, Nat.mul_add_div hpos, Nat.div_eq_of_lt hs, Nat.add_zero, Nat.mod_eq_of_lt hf]
    have md : ∀ s, (f * (fQ F + 1) ^ m + s) % (fQ F + 1) ^ m = s % (fQ F + 1) ^ m := by
      intro s
      rw [Nat.mul_comm f, Nat.mul_add_mod]
    have ix : ∀ s, t * ((fQ F + 1) * (fQ F + 1) ^ m) + (f * (fQ F + 1) ^ m + s) = (t * (fQ F + 1) + f) * (fQ F + 1) ^ m + s := by
      intro s
      rw [← Nat.mul_assoc t, ← Nat.add_assoc, ← Nat.add_mul]
    by_cases h0 : f = 0
    · rw [if_pos h0, ffg_eq F leaf m]
      refine fold_cong _ _ (fun a s hs => ?_)
      have hs := List.mem_range.mp hs
      rw [ix, rr, dg s hs, if_pos h0, rr_mod F m _ _ _ s (md s)]
    · rw [if_neg h0]
      by_cases hb : brs F d p f = true
      · rw [if_pos hb, ffg_eq F leaf m]
        refine fold_cong _ _ (fun a s hs => ?_)
        have hs := List.mem_range.mp hs
        rw [ix, rr, dg s hs, if_neg h0, if_pos hb, rr_mod F m _ _ _ s (md s)]
      · rw [if_neg hb]
        have : (List.range ((fQ F + 1) ^ m)).foldl (fun a s => lf leaf (rr F (m + 1) d p (f * (fQ F + 1) ^ m + s)) (t * ((fQ F + 1) * (fQ F + 1) ^ m) + (f * (fQ F + 1) ^ m + s)) a) a = (List.range ((fQ F + 1) ^ m)).foldl (fun a _ => a) a := by
          refine fold_cong _ _ (fun a s hs => ?_)
          have hs := List.mem_range.mp hs
          rw [rr, dg s hs, if_neg h0, if_neg hb]
          rfl
        rw [this, fold_id]
/-! the leaves -/
abbrev Acc : Type := Nat × Nat × Int32
def leafA (e : Dyn) (_ : Nat) (a : Acc) : Acc := (a.1 + 1, a.2.1 ||| dT e, if dT e = 7 then (if a.2.2 = -9 then nI (dS e) else if a.2.2 ≤ nI (dS e) then a.2.2 else nI (dS e)) else a.2.2)
def leafS (e : Dyn) (t : Nat) (a : Option Nat) : Option Nat := match a with
  | some r => some r
  | none => if dT e = 7 then some t else none
theorem fold_some {g : Option Nat → Nat → Option Nat} (hg : ∀ r t, g (some r) t = some r) : ∀ (l : List Nat) (r : Nat), l.foldl g (some r) = some r
  | [], _ => rfl
  | x :: l, r => by rw [List.foldl_cons, hg]; exact fold_some hg l r
theorem ffg_some (F : Fam) : ∀ m d p t r, ffg F leafS m d p t (some r) = some r
  | 0, _, _, _, _ => rfl
  | m + 1, d, p, t, r => by
    rw [ffg]
    refine fold_some (fun r f => ?_) _ r
    by_cases h0 : f = 0
    · rw [if_pos h0, ffg_some F m]
    · rw [if_neg h0]
      by_cases hb : brs F d p f = true
      · rw [if_pos hb, ffg_some F m]
      · rw [if_neg hb]
theorem fold_inv {σ : Type} {g : σ → Nat → σ} {P : σ → Prop} : ∀ (l : List Nat) (a : σ), P a → (∀ a t, t ∈ l → P a → P (g a t)) → P (l.foldl g a)
  | [], _, h, _ => h
  | x :: l, a, h, H => by
    rw [List.foldl_cons]
    exact fold_inv l _ (H a x (List.mem_cons_self ..) h) (fun a t ht => H a t (List.mem_cons_of_mem _ ht))
/-- what is found begins with what stood ahead -/
theorem ffg_top (F : Fam) : ∀ m d p t r, ffg F leafS m d p t none = some r → r / (fQ F + 1) ^ m = t
  | 0, d, p, t, r, h => by
    rw [Nat.pow_zero, Nat.div_one]
    rw [ffg] at h
    unfold leafS at h
    by_cases e : dT d = 7
    · rw [if_pos e] at h; injection h with h; exact h.symm
    · rw [if_neg e] at h; cases h
  | m + 1, d, p, t, r, h => by
    rw [ffg] at h
    have key := fold_inv (P := fun a : Option Nat => ∀ r, a = some r → r / (fQ F + 1) ^ (m + 1) = t) (List.range (fQ F + 1)) none (g := fun a f => if f = 0 then ffg F leafS m (eas d) (nxt F p) (t * (fQ F + 1) + f) a else if brs F d p f = true then ffg F leafS m (utt F d p (f - 1)) (nxt F p) (t * (fQ F + 1) + f) a else a) (fun r h => by cases h) (fun a f hf ha => ?_)
    · exact key r h
    · have hf := List.mem_range.mp hf
      have up : ∀ r, r / (fQ F + 1) ^ m = t * (fQ F + 1) + f → r / (fQ F + 1) ^ (m + 1) = t := by
        intro r hr
        rw [Nat.pow_succ, ← Nat.div_div_eq_div_mul, hr, Nat.mul_comm t, Nat.mul_add_div (by omega), Nat.div_eq_of_lt hf, Nat.add_zero]
      intro r hr
      cases a with
      | some r0 =>
        have : (if f = 0 then ffg F leafS m (eas d) (nxt F p) (t * (fQ F + 1) + f) (some r0) else if brs F d p f = true then ffg F leafS m (utt F d p (f - 1)) (nxt F p) (t * (fQ F + 1) + f) (some r0) else some r0) = some r0 := by
          by_cases h0 : f = 0
          · rw [if_pos h0, ffg_some]
          · rw [if_neg h0]
            by_cases hb : brs F d p f = true
            · rw [if_pos hb, ffg_some]
            · rw [if_neg hb]
        rw [this] at hr
        injection hr with hr
        subst hr
        exact ha r0 rfl
      | none =>
        by_cases h0 : f = 0
        · rw [if_pos h0] at hr
          exact up r (ffg_top F m _ _ _ r hr)
        · rw [if_neg h0] at hr
          by_cases hb : brs F d p f = true
          · rw [if_pos hb] at hr
            exact up r (ffg_top F m _ _ _ r hr)
          · rw [if_neg hb] at hr; cases hr

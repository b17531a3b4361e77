def FU : Nat := 1000000000000
def DEP : Nat := 10
def mkR (f l : Nat) : Room := { frames := f, cells := 0, slots := 0, locals := l }
theorem rgn {i : Int32} {n : Nat} (b : Nat) (h : inb i n = true) : b ≤ b + i.toNatClampNeg ∧ b + i.toNatClampNeg < b + n := by
  unfold inb at h
  rw [Bool.and_eq_true, decide_eq_true_eq, decide_eq_true_eq] at h
  omega
def gM : GT := fun _ _ => True
theorem gM_ok : GOk gM := ⟨fun _ _ _ _ _ _ _ _ _ _ _ => trivial, fun _ _ _ _ _ _ => trivial⟩
def stL : Nat → Int32 := fun j => match j with
  | 0 => 115
  | 1 => 104
  | 2 => 103
  | 3 => 106
  | 4 => 119
  | _ => 112
def stP : Nat → Int32 := fun j => match j with
  | 0 => 0
  | 1 => 0
  | 2 => 0
  | 3 => 1
  | 4 => 2
  | _ => 1
def gC : GT := fun A U => ∃ tl tp : Nat, va_Z "StuckDoor" "LETTERS" "[I" (.ref tl) A U U.heap ∧ va_T .int tl 6 (fun j => .int (stL j)) A U U.heap ∧ va_Z "StuckDoor" "PARENTS" "[I" (.ref tp) A U U.heap ∧ va_T .int tp 6 (fun j => .int (stP j)) A U U.heap ∧
  va_Nw (.fieldLinkNest "StuckDoor$Reader" 81 "StuckDoor" "LETTERS" "[I" "StuckDoor") U ∧ va_Nw (.fieldLinkNest "StuckDoor$Family" 67 "StuckDoor" "PARENTS" "[I" "StuckDoor") U ∧ va_Nw (.methodLinkNest "StuckDoor" 257 yX1_worth "StuckDoor") U
theorem gC_ok : GOk gC := by
  refine ⟨?_, ?_⟩
  · intro A B s U H locs hS hBA hW hU hG
    obtain ⟨tl, tp, h1, h2, h3, h4, h5, h6, h7⟩ := hG
    refine ⟨tl, tp, ?_, ?_, ?_, ?_, h5.warmF hW, h6.warmF hW, h7.warmM hW⟩
    · rw [hU]; exact ((h1.kept (fun a ha hn => hS.2.1 a ha hn)).narrow hBA).moved hW.alike
    · rw [hU]; exact ((h2.kept (fun a ha hn => hS.2.1 a ha hn)).narrow hBA).moved hW.alike
    · rw [hU]; exact ((h3.kept (fun a ha hn => hS.2.1 a ha hn)).narrow hBA).moved hW.alike
    · rw [hU]; exact ((h4.kept (fun a ha hn => hS.2.1 a ha hn)).narrow hBA).moved hW.alike
  · intro A U g mk a hG
    obtain ⟨tl, tp, h1, h2, h3, h4, h5, h6, h7⟩ := hG
    exact ⟨tl, tp, h1.moved (u := U) (U := U.calling g mk a) (Vm.Alike.refl U.vm), h2.moved (u := U) (U := U.calling g mk a) (Vm.Alike.refl U.vm), h3.moved (u := U) (U := U.calling g mk a) (Vm.Alike.refl U.vm), h4.moved (u := U) (U := U.calling g mk a) (Vm.Alike.refl U.vm), h5.same rfl (U := U.calling g mk a) rfl, h6.same rfl (U := U.calling g mk a) rfl, h7.same rfl (U := U.calling g mk a) rfl⟩
section BD
variable {p : Program} {l : Launch} {e : Env} {R : Room} {s : State} {m : MethodId} {args : Array Value} {below : List Frame} {meth : Method} {c : Code} {H : Heap} {locs : List Loc} {Q : State → Prop}
variable {cc : ByteArray} {nL : Nat} {own : String} {Ts : List Cond} {D : va_G} {c3 : C3} {enc : Mm → va_W} {G : GT} {A : Nat → Prop} {w w' : Mm} {pc : Nat} {ls : Array Slot} {rest st : List Value}
theorem x_nmw {γ : Type} {k : Mm → Option γ} {r : γ} {P : Prop} (h : nm w k = some r) (hP : va_P D vwCl (enc w) H) (kk : ∀ w1, k w1 = some r → va_P D vwCl (enc w1) H → P) : P := kk w h hP
theorem x_ialdL (X : Cx p s m args c cc nL own Ts D c3 enc G A) (hP : va_P D vwCl (enc w) H) {q a n j : Nat} {f : Nat → Int32} (ha : (enc w)[q]? = some (a, .inl (c3.1, n, .inl f))) {i : Int32} (hin : inb i n = true) (hj : i.toNatClampNeg = j) (hdg : decode cc pc = .ok (.iaload, 1))
    (kk : W p l e R s m args below meth c H locs 0 0 Q (F0 m (pc + 1) ls (.int (f j) :: rest))) : W p l e R s m args below meth c H locs 0 0 Q (F0 m pc ls (.int i :: .ref a :: rest)) := by
  subst hj
  exact x_iald X hP ha hin hdg kk
theorem x_laldL (X : Cx p s m args c cc nL own Ts D c3 enc G A) (hP : va_P D vwCl (enc w) H) {q a n j : Nat} {f : Nat → Int64} (ha : (enc w)[q]? = some (a, .inl (c3.2.1, n, .inr (.inl f)))) {i : Int32} (hin : inb i n = true) (hj : i.toNatClampNeg = j) (hdg : decode cc pc = .ok (.laload, 1))
    (kk : W p l e R s m args below meth c H locs 0 0 Q (F0 m (pc + 1) ls (.long (f j) :: rest))) : W p l e R s m args below meth c H locs 0 0 Q (F0 m pc ls (.int i :: .ref a :: rest)) := by
  subst hj
  exact x_lald X hP ha hin hdg kk
theorem x_iastL (X : Cx p s m args c cc nL own Ts D c3 enc G A) (hP : va_P D vwCl (enc w) H) (hS : va_S A s.heap H locs) {q a n j : Nat} {f : Nat → Int32} (ha : (enc w)[q]? = some (a, .inl (c3.1, n, .inl f))) {i x : Int32} (hs : (enc w).set q (a, .inl (c3.1, n, .inl (upd f j x))) = enc (sA w q j x)) (hin : inb i n = true) (hj : i.toNatClampNeg = j) (hdg : decode cc pc = .ok (.iastore, 1))
    (kk : ∀ (H1 : Heap) (locs1 : List Loc), va_P D vwCl (enc (sA w q j x)) H1 → va_S A s.heap H1 locs1 → W p l e R s m args below meth c H1 locs1 0 0 Q (F0 m (pc + 1) ls rest)) : W p l e R s m args below meth c H locs 0 0 Q (F0 m pc ls (.int x :: .int i :: .ref a :: rest)) := by
  subst hj
  exact x_iast X hP hS ha hs hin hdg kk
theorem x_lastL (X : Cx p s m args c cc nL own Ts D c3 enc G A) (hP : va_P D vwCl (enc w) H) (hS : va_S A s.heap H locs) {q a n j : Nat} {f : Nat → Int64} (ha : (enc w)[q]? = some (a, .inl (c3.2.1, n, .inr (.inl f)))) {i : Int32} {x : Int64} (hs : (enc w).set q (a, .inl (c3.2.1, n, .inr (.inl (vp_updL f j x)))) = enc (sL w q j x)) (hin : inb i n = true) (hj : i.toNatClampNeg = j) (hdg : decode cc pc = .ok (.lastore, 1))
    (kk : ∀ (H1 : Heap) (locs1 : List Loc), va_P D vwCl (enc (sL w q j x)) H1 → va_S A s.heap H1 locs1 → W p l e R s m args below meth c H1 locs1 0 0 Q (F0 m (pc + 1) ls rest)) : W p l e R s m args below meth c H locs 0 0 Q (F0 m pc ls (.long x :: .int i :: .ref a :: rest)) := by
  subst hj
  exact x_last X hP hS ha hs hin hdg kk
theorem x_copy (X : Cx p s m args c cc nL own Ts D c3 enc G A) (hP : va_P D vwCl (enc w) H) (hS : va_S A s.heap H locs) {q0 q1 a0 a1 n0 n1 : Nat} {f g : Nat → Int32} (ha0 : (enc w)[q0]? = some (a0, .inl (c3.1, n0, .inl f))) (ha1 : (enc w)[q1]? = some (a1, .inl (c3.1, n1, .inl g))) {sp dp n : Int32} (hs : (enc w).set q1 (a1, .inl (c3.1, n1, .inl (va_cpy f g sp.toNatClampNeg dp.toNatClampNeg n.toNatClampNeg))) = enc (sF w q1 (va_cpy f g sp.toNatClampNeg dp.toNatClampNeg n.toNatClampNeg)))
    (hc : ¬ sp < 0 ∧ ¬ dp < 0 ∧ ¬ n < 0 ∧ sp.toNatClampNeg + n.toNatClampNeg ≤ n0 ∧ dp.toNatClampNeg + n.toNatClampNeg ≤ n1) (hml : c.maxLocals = ls.size) {index : Nat} (hlink : (Cond.methodLink own index arraycopyName).before args s = true) (hnat : (Cond.native arraycopyName).before args s = true) (hstat : (Cond.static arraycopyName).before args s = true) (hini : (Cond.initialized "java/lang/System").before args s = true) (hframes : 1 ≤ R.frames) (hlocals : (rest.map fun v => v.category).sum + 18 ≤ R.locals) (hdg : decode cc pc = .ok (.invokestatic index, 3))
    (kk : ∀ (H1 : Heap) (locs1 : List Loc), va_P D vwCl (enc (sF w q1 (va_cpy f g sp.toNatClampNeg dp.toNatClampNeg n.toNatClampNeg))) H1 → va_S A s.heap H1 locs1 → W p l e R s m args below meth c H1 locs1 0 0 Q (F0 m (pc + 3) ls rest)) : W p l e R s m args below meth c H locs 0 0 Q (F0 m pc ls (.int n :: .int dp :: .ref a1 :: .int sp :: .ref a0 :: rest)) := by
  obtain ⟨hx, hb, -, hown, -, hK, hD, -⟩ := X
  exact va_copyi hx hb hml hown hlink hnat hstat hini hK hP (hD w) hS q0 q1 0 0 ha0 ha1 rfl rfl rfl hc.1 hc.2.1 hc.2.2.1 hc.2.2.2.1 hc.2.2.2.2 (fun _ _ => rfl) hframes hlocals hdg (fun H1 locs1 h1 _ h3 => kk H1 locs1 (by rw [← hs]; exact h1) h3)
end BD

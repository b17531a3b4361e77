/-! the worlds as memories: ints and longs by cell and place, and one moving reference -/
abbrev Mm : Type := (Nat → Nat → Int32) × (Nat → Nat → Int64) × Nat
def sA (w : Mm) (q k : Nat) (x : Int32) : Mm := (fun p => if p = q then upd (w.1 p) k x else w.1 p, w.2)
def sL (w : Mm) (q k : Nat) (x : Int64) : Mm := (w.1, fun p => if p = q then vp_updL (w.2.1 p) k x else w.2.1 p, w.2.2)
def sR (w : Mm) (x : Nat) : Mm := (w.1, w.2.1, x)
def sF (w : Mm) (q : Nat) (f : Nat → Int32) : Mm := (fun p => if p = q then f else w.1 p, w.2)
/-! partial functions -/
def bd {α β γ : Type} (x : Option (α × β)) (k : α → β → Option γ) : Option γ := match x with
  | none => none
  | some q => k q.1 q.2
def bo {α γ : Type} (x : Option α) (k : α → Option γ) : Option γ := match x with
  | none => none
  | some q => k q
def gd {γ : Type} (c : Prop) [Decidable c] (x : Option γ) : Option γ := if c then x else none
def nm {α γ : Type} (e : α) (k : α → Option γ) : Option γ := k e
theorem bd_s {α β γ : Type} {x : Option (α × β)} {k : α → β → Option γ} {r : γ} (h : bd x k = some r) : ∃ a b, x = some (a, b) ∧ k a b = some r := by
  cases x with
  | none => cases h
  | some q => exact ⟨q.1, q.2, rfl, h⟩
theorem bo_s {α γ : Type} {x : Option α} {k : α → Option γ} {r : γ} (h : bo x k = some r) : ∃ a, x = some a ∧ k a = some r := by
  cases x with
  | none => cases h
  | some q => exact ⟨q, rfl, h⟩
theorem gd_s {γ : Type} {c : Prop} [Decidable c] {x : Option γ} {r : γ} (h : gd c x = some r) : c ∧ x = some r := by
  unfold gd at h
  by_cases hc : c
  · rw [if_pos hc] at h
    exact ⟨hc, h⟩
  · rw [if_neg hc] at h
    cases h
theorem it_p {γ : Type} {c : Prop} [Decidable c] {x y : Option γ} {r : γ} (hc : c) (h : (if c then x else y) = some r) : x = some r := by rwa [if_pos hc] at h
theorem it_n {γ : Type} {c : Prop} [Decidable c] {x y : Option γ} {r : γ} (hc : ¬ c) (h : (if c then x else y) = some r) : y = some r := by rwa [if_neg hc] at h
/-- the index i is in range -/
def inb (i : Int32) (n : Nat) : Bool := decide (0 ≤ i) && decide (i.toNatClampNeg < n)
theorem inb_vp {i : Int32} {n : Nat} (h : inb i n = true) : vp_in i n := by
  unfold inb at h
  rw [Bool.and_eq_true, decide_eq_true_eq, decide_eq_true_eq] at h
  intro q
  rcases q with q | q
  · exact absurd h.1 (Int32.not_le.mpr q)
  · omega
/-! what holds all through a method -/
abbrev C3 : Type := ClassId × ClassId × ClassId
def KK (D : va_G) (c3 : C3) (U : State) : Prop := va_K D vwCl [(c3.1, .int), (c3.2.1, .long), (c3.2.2, .array .int)] U
abbrev GT : Type := (Nat → Prop) → State → Prop
def GOk (G : GT) : Prop := (∀ (A B : Nat → Prop) (s U : State) (H : Heap) (locs : List Loc), va_S A s.heap H locs → (∀ q, B q → A q) → s.WarmedH U.vm → U.heap = H → G A s → G B U) ∧ ∀ (A : Nat → Prop) (U : State) (g : JFrame) (mk : MethodId) (a : Array Value), G A U → G A (U.calling g mk a)
def Cx (p : Program) (s : State) (m : MethodId) (args : Array Value) (c : Code) (cc : ByteArray) (nL : Nat) (own : String) (Ts : List Cond) (D : va_G) (c3 : C3) (enc : Mm → va_W) (G : GT) (A : Nat → Prop) : Prop :=
  p.tables.exec = Jvm.exec ∧ c.code = cc ∧ c.maxLocals = nL ∧ s.vm.findClass own = some m.cls ∧ (∀ w ∈ Ts, w.before args s = true) ∧ KK D c3 s ∧ (∀ v, va_D A (enc v)) ∧ (∀ q, s.heap.size ≤ q → A q) ∧ G A s
/-- a contract's start -/
def PB (D : va_G) (c3 : C3) (enc : Mm → va_W) (G : GT) (av : List Value) (w : Mm) (sz : Nat) : Array Value → State → Prop := va_Pc av (fun U => U.heap.size = sz ∧ va_P D vwCl (enc w) U.heap ∧ KK D c3 U ∧ (∀ v, va_D (fun _ => True) (enc v)) ∧ G (va_A (enc w) sz) U)
def BB (D : va_G) (enc : Mm → va_W) : Mm → State → Prop := fun w' t => va_P D vwCl (enc w') t.heap
/-- contracts of methods that answer an int, a long, nothing: with the partial function's answer -/
def Ci (l : Launch) (y : MethodName) (ws : List Cond) (rm : Room) (D : va_G) (c3 : C3) (enc : Mm → va_W) (G : GT) (av : List Value) (w : Mm) (sz : Nat) (r : Int32) (w' : Mm) : Prop :=
  Met l y ws rm (PB D c3 enc G av w sz) (va_Qi (fun r2 u => r2 = r ∧ u = w') (BB D enc) (va_A (enc w) sz)) 0 0 (va_A (enc w) sz)
def Cl (l : Launch) (y : MethodName) (ws : List Cond) (rm : Room) (D : va_G) (c3 : C3) (enc : Mm → va_W) (G : GT) (av : List Value) (w : Mm) (sz : Nat) (r : Int64) (w' : Mm) : Prop :=
  Met l y ws rm (PB D c3 enc G av w sz) (va_Ql (fun r2 u => r2 = r ∧ u = w') (BB D enc) (va_A (enc w) sz)) 0 0 (va_A (enc w) sz)
def Cv (l : Launch) (y : MethodName) (ws : List Cond) (rm : Room) (D : va_G) (c3 : C3) (enc : Mm → va_W) (G : GT) (av : List Value) (w : Mm) (sz : Nat) (w' : Mm) : Prop :=
  Met l y ws rm (PB D c3 enc G av w sz) (va_Qv (fun u => u = w') (BB D enc) (va_A (enc w) sz)) 0 0 (va_A (enc w) sz)
/-- the ways out of a method -/
def Ri (p : Program) (l : Launch) (e : Env) (R : Room) (s : State) (m : MethodId) (args : Array Value) (below : List Frame) (meth : Method) (c : Code) (Q : State → Prop) (cc : ByteArray) (D : va_G) (enc : Mm → va_W) (A : Nat → Prop) (r : Int32) (w' : Mm) : Prop :=
  ∀ (H : Heap) (locs : List Loc) (ls : Array Slot) (pc : Nat), va_P D vwCl (enc w') H → va_S A s.heap H locs → decode cc pc = .ok (.ireturn, 1) → W p l e R s m args below meth c H locs 0 0 Q (F0 m pc ls [.int r])
def Rl (p : Program) (l : Launch) (e : Env) (R : Room) (s : State) (m : MethodId) (args : Array Value) (below : List Frame) (meth : Method) (c : Code) (Q : State → Prop) (cc : ByteArray) (D : va_G) (enc : Mm → va_W) (A : Nat → Prop) (r : Int64) (w' : Mm) : Prop :=
  ∀ (H : Heap) (locs : List Loc) (ls : Array Slot) (pc : Nat), va_P D vwCl (enc w') H → va_S A s.heap H locs → decode cc pc = .ok (.lreturn, 1) → W p l e R s m args below meth c H locs 0 0 Q (F0 m pc ls [.long r])
def Rv (p : Program) (l : Launch) (e : Env) (R : Room) (s : State) (m : MethodId) (args : Array Value) (below : List Frame) (meth : Method) (c : Code) (Q : State → Prop) (cc : ByteArray) (D : va_G) (enc : Mm → va_W) (A : Nat → Prop) (w' : Mm) : Prop :=
  ∀ (H : Heap) (locs : List Loc) (ls : Array Slot) (pc : Nat), va_P D vwCl (enc w') H → va_S A s.heap H locs → decode cc pc = .ok (.return_, 1) → W p l e R s m args below meth c H locs 0 0 Q (F0 m pc ls [])
def Rz (p : Program) (l : Launch) (e : Env) (R : Room) (s : State) (m : MethodId) (args : Array Value) (below : List Frame) (meth : Method) (c : Code) (Q : State → Prop) (cc : ByteArray) (D : va_G) (enc : Mm → va_W) (A : Nat → Prop) (r : Int32) (w' : Mm) : Prop :=
  (r = 0 ∨ r = 1) → ∀ (H : Heap) (locs : List Loc) (ls : Array Slot) (pc : Nat), va_P D vwCl (enc w') H → va_S A s.heap H locs → decode cc pc = .ok (.ireturn, 1) → W p l e R s m args below meth c H locs 0 0 Q (F0 m pc ls [.int r])
theorem KK.moved {D : va_G} {c3 : C3} {u U : State} (hvm : u.vm.Alike U.vm) (h : KK D c3 u) : KK D c3 U := va_K.moved hvm h
theorem D_to {A : Nat → Prop} {ws : va_W} (h : va_D A ws) : va_D (fun _ => True) ws := h.weaken (fun _ _ _ _ => trivial)
theorem nar_b {r : Int32} (h : r = 0 ∨ r = 1) : narrow .boolean (.int r) = .int r := by
  rcases h with rfl | rfl <;> rfl
theorem va_D_same {A : Nat → Prop} {w1 w2 : va_W} (he : w1.map Prod.fst = w2.map Prod.fst) (h : va_D A w1) : va_D A w2 := by
  have key : ∀ (k : Nat) (q : Nat × va_E), w2[k]? = some q → ∃ q1, w1[k]? = some q1 ∧ q1.1 = q.1 := by
    intro k q hq
    have h1 : (w2.map Prod.fst)[k]? = some q.1 := by rw [List.getElem?_map, hq]; rfl
    rw [← he, List.getElem?_map] at h1
    cases hk : w1[k]? with
    | none => rw [hk] at h1; cases h1
    | some q1 => rw [hk] at h1; exact ⟨q1, rfl, Option.some.inj h1⟩
  refine ⟨fun i j p q hi hj hpq => ?_, fun k q hk => ?_⟩
  · obtain ⟨p1, hp1, ep⟩ := key i p hi
    obtain ⟨q1, hq1, eq⟩ := key j q hj
    exact h.1 i j p1 q1 hp1 hq1 (by rw [ep, eq, hpq])
  · obtain ⟨q1, hq1, eq⟩ := key k q hk
    rw [← eq]
    exact h.2 k q1 hq1
def EncOk (enc : Mm → va_W) : Prop := ∀ v w, (enc v).map Prod.fst = (enc w).map Prod.fst
section BS
variable {l : Launch} {y : MethodName} {ws ws' : List Cond} {rm : Room} {D : va_G} {c3 : C3} {enc : Mm → va_W} {G : GT} {av : List Value} {w w' : Mm} {sz : Nat} {cc : ByteArray} {maxL : Nat}
theorem Ci.of {r : Int32} (hE : EncOk enc) (hy : plainName y.cls = true) (hw : ws = Cond.code y cc maxL (some .int) :: ws') (hlen : (lg_sl av).length ≤ maxL)
    (body : ∀ (p : Program) (e : Env) (s : State) (m : MethodId) (below : List Frame) (meth : Method) (c : Code) (A : Nat → Prop) (Q : State → Prop) (ls : Array Slot), Cx p s m av.toArray c cc maxL y.cls ws D c3 enc G A → Ri p l e rm s m av.toArray below meth c Q cc D enc A r w' → va_P D vwCl (enc w) s.heap → va_S A s.heap s.heap [] → lv_has ls maxL (lv_args 0 av) →
      W p l e rm s m av.toArray below meth c s.heap [] 0 0 Q (F0 m 0 ls [])) : Ci l y ws rm D c3 enc G av w sz r w' := by
  refine Met.ofW (cc := cc) (maxL := maxL) (ret := (some .int)) hy hw ?_
  intro p e s m args below meth c s₁ B hml hv
  obtain ⟨rfl, hsz, hP, hK, hD0, hg⟩ := hv
  subst hsz
  have hts := atoms_spec (ws := ws) B.pre
  have hown : s.vm.findClass y.cls = some m.cls := findClass_of_methodNamed B.named
  have hlocks := B.notSynchronized
  have hl := lv_entry av (n := maxL) hlen
  rw [lg_entry_eq]
  have hD1 : va_D (va_A (enc w) s.heap.size) (enc w) := (hD0 w).self
  have hD : ∀ v, va_D (va_A (enc w) s.heap.size) (enc v) := fun v => va_D_same (hE w v) hD1
  refine body p e s m below meth c (va_A (enc w) s.heap.size) _ _ ⟨B.exec, B.bytes, hml, hown, hts, hK, hD, fun q h => Or.inr h, hg⟩ ?_ hP va_S.rf hl
  intro H locs ls pc hP1 hS1 hd
  exact W.iret (v := r) B.exec B.bytes B.returns (fun t ht hW => ⟨⟨r, w', rfl, ⟨rfl, rfl⟩, by show va_P _ _ _ _; rw [ht]; exact hP1⟩, hS1.F ht⟩) hS1.2.2 hd
theorem Ci.ofz {r : Int32} (hE : EncOk enc) (hy : plainName y.cls = true) (hw : ws = Cond.code y cc maxL (some .boolean) :: ws') (hlen : (lg_sl av).length ≤ maxL)
    (body : ∀ (p : Program) (e : Env) (s : State) (m : MethodId) (below : List Frame) (meth : Method) (c : Code) (A : Nat → Prop) (Q : State → Prop) (ls : Array Slot), Cx p s m av.toArray c cc maxL y.cls ws D c3 enc G A → Rz p l e rm s m av.toArray below meth c Q cc D enc A r w' → va_P D vwCl (enc w) s.heap → va_S A s.heap s.heap [] → lv_has ls maxL (lv_args 0 av) →
      W p l e rm s m av.toArray below meth c s.heap [] 0 0 Q (F0 m 0 ls [])) : Ci l y ws rm D c3 enc G av w sz r w' := by
  refine Met.ofW (cc := cc) (maxL := maxL) (ret := (some .boolean)) hy hw ?_
  intro p e s m args below meth c s₁ B hml hv
  obtain ⟨rfl, hsz, hP, hK, hD0, hg⟩ := hv
  subst hsz
  have hts := atoms_spec (ws := ws) B.pre
  have hown : s.vm.findClass y.cls = some m.cls := findClass_of_methodNamed B.named
  have hlocks := B.notSynchronized
  have hl := lv_entry av (n := maxL) hlen
  rw [lg_entry_eq]
  have hD1 : va_D (va_A (enc w) s.heap.size) (enc w) := (hD0 w).self
  have hD : ∀ v, va_D (va_A (enc w) s.heap.size) (enc v) := fun v => va_D_same (hE w v) hD1
  refine body p e s m below meth c (va_A (enc w) s.heap.size) _ _ ⟨B.exec, B.bytes, hml, hown, hts, hK, hD, fun q h => Or.inr h, hg⟩ ?_ hP va_S.rf hl
  intro hz H locs ls pc hP1 hS1 hd
  exact W.zret (v := r) (ty := .boolean) B.exec B.bytes B.returns (nar_b hz) (fun t ht hW => ⟨⟨r, w', rfl, ⟨rfl, rfl⟩, by show va_P _ _ _ _; rw [ht]; exact hP1⟩, hS1.F ht⟩) hS1.2.2 hd
theorem Cl.of {r : Int64} (hE : EncOk enc) (hy : plainName y.cls = true) (hw : ws = Cond.code y cc maxL (some .long) :: ws') (hlen : (lg_sl av).length ≤ maxL)
    (body : ∀ (p : Program) (e : Env) (s : State) (m : MethodId) (below : List Frame) (meth : Method) (c : Code) (A : Nat → Prop) (Q : State → Prop) (ls : Array Slot), Cx p s m av.toArray c cc maxL y.cls ws D c3 enc G A → Rl p l e rm s m av.toArray below meth c Q cc D enc A r w' → va_P D vwCl (enc w) s.heap → va_S A s.heap s.heap [] → lv_has ls maxL (lv_args 0 av) →
      W p l e rm s m av.toArray below meth c s.heap [] 0 0 Q (F0 m 0 ls [])) : Cl l y ws rm D c3 enc G av w sz r w' := by
  refine Met.ofW (cc := cc) (maxL := maxL) (ret := (some .long)) hy hw ?_
  intro p e s m args below meth c s₁ B hml hv
  obtain ⟨rfl, hsz, hP, hK, hD0, hg⟩ := hv
  subst hsz
  have hts := atoms_spec (ws := ws) B.pre
  have hown : s.vm.findClass y.cls = some m.cls := findClass_of_methodNamed B.named
  have hlocks := B.notSynchronized
  have hl := lv_entry av (n := maxL) hlen
  rw [lg_entry_eq]
  have hD1 : va_D (va_A (enc w) s.heap.size) (enc w) := (hD0 w).self
  have hD : ∀ v, va_D (va_A (enc w) s.heap.size) (enc v) := fun v => va_D_same (hE w v) hD1
  refine body p e s m below meth c (va_A (enc w) s.heap.size) _ _ ⟨B.exec, B.bytes, hml, hown, hts, hK, hD, fun q h => Or.inr h, hg⟩ ?_ hP va_S.rf hl
  intro H locs ls pc hP1 hS1 hd
  exact W.lret (v := r) B.exec B.bytes B.returns (fun t ht hW => ⟨⟨r, w', rfl, ⟨rfl, rfl⟩, by show va_P _ _ _ _; rw [ht]; exact hP1⟩, hS1.F ht⟩) hS1.2.2 hd
theorem Cv.of (hE : EncOk enc) (hy : plainName y.cls = true) (hw : ws = Cond.code y cc maxL none :: ws') (hlen : (lg_sl av).length ≤ maxL)
    (body : ∀ (p : Program) (e : Env) (s : State) (m : MethodId) (below : List Frame) (meth : Method) (c : Code) (A : Nat → Prop) (Q : State → Prop) (ls : Array Slot), Cx p s m av.toArray c cc maxL y.cls ws D c3 enc G A → Rv p l e rm s m av.toArray below meth c Q cc D enc A w' → va_P D vwCl (enc w) s.heap → va_S A s.heap s.heap [] → lv_has ls maxL (lv_args 0 av) →
      W p l e rm s m av.toArray below meth c s.heap [] 0 0 Q (F0 m 0 ls [])) : Cv l y ws rm D c3 enc G av w sz w' := by
  refine Met.ofW (cc := cc) (maxL := maxL) (ret := none) hy hw ?_
  intro p e s m args below meth c s₁ B hml hv
  obtain ⟨rfl, hsz, hP, hK, hD0, hg⟩ := hv
  subst hsz
  have hts := atoms_spec (ws := ws) B.pre
  have hown : s.vm.findClass y.cls = some m.cls := findClass_of_methodNamed B.named
  have hlocks := B.notSynchronized
  have hl := lv_entry av (n := maxL) hlen
  rw [lg_entry_eq]
  have hD1 : va_D (va_A (enc w) s.heap.size) (enc w) := (hD0 w).self
  have hD : ∀ v, va_D (va_A (enc w) s.heap.size) (enc v) := fun v => va_D_same (hE w v) hD1
  refine body p e s m below meth c (va_A (enc w) s.heap.size) _ _ ⟨B.exec, B.bytes, hml, hown, hts, hK, hD, fun q h => Or.inr h, hg⟩ ?_ hP va_S.rf hl
  intro H locs ls pc hP1 hS1 hd
  exact W.vret B.exec B.bytes B.returns (fun t ht hW => ⟨⟨w', rfl, rfl, by show va_P _ _ _ _; rw [ht]; exact hP1⟩, hS1.F ht⟩) hS1.2.2 hd
theorem PB_blind (hG : GOk G) : FrameBlind (PB D c3 enc G av w sz) := by
  intro a U g mk h
  obtain ⟨h1, h2, h3, h4, h5, h6⟩ := h
  exact ⟨h1, h2, h3, KK.moved (u := U) (U := U.calling g mk a) (Vm.Alike.refl U.vm) h4, h5, hG.2 _ _ _ _ _ h6⟩
end BS
section BC
variable {p : Program} {l : Launch} {e : Env} {R : Room} {s : State} {m : MethodId} {args : Array Value} {below : List Frame} {meth : Method} {c : Code} {H : Heap} {locs : List Loc} {Q : State → Prop}
variable {cc : ByteArray} {nL : Nat} {own : String} {Ts : List Cond} {D : va_G} {c3 : C3} {enc : Mm → va_W} {G : GT} {A : Nat → Prop} {w w' : Mm} {pc : Nat} {ls : Array Slot} {rest st : List Value}
theorem Cx.free (X : Cx p s m args c cc nL own Ts D c3 enc G A) (hS : va_S A s.heap H locs) : ∀ q, va_A (enc w) H.size q → A q := by
  obtain ⟨-, -, -, -, -, -, hD, hA, -⟩ := X
  intro q hq
  rcases hq with ⟨k, e, hk⟩ | hq
  · exact (hD w).2 k _ hk
  · exact hA q (Nat.le_trans hS.1 hq)
theorem Cx.pre (X : Cx p s m args c cc nL own Ts D c3 enc G A) (hG : GOk G) (hP : va_P D vwCl (enc w) H) (hS : va_S A s.heap H locs) (av : List Value) : ∀ U : State, U.heap = H → s.WarmedH U.vm → PB D c3 enc G av w H.size av.toArray U := by
  intro U hU hW
  have hf := X.free (w := w) hS
  obtain ⟨-, -, -, -, -, hK, hD, hA, hg⟩ := X
  exact ⟨rfl, by rw [hU], by rw [hU]; exact hP, KK.moved hW.alike hK, fun v => D_to (hD v), hG.1 A _ s U H locs hS hf hW hU hg⟩
variable {y : MethodName} {bytes : ByteArray} {maxL n index : Nat} {ret : Option FieldType} {ws : List Cond} {rm : Room} {Qc : Array Value → State → Outcome → State → Prop} {b : Addr} {As : List Value}
theorem x_runV (X : Cx p s m args c cc nL own Ts D c3 enc G A) (hG : GOk G) (hP : va_P D vwCl (enc w) H) (hS : va_S A s.heap H locs) (hM : Met l y ws rm (PB D c3 enc G (.ref b :: As) w H.size) Qc 0 0 (va_A (enc w) H.size)) {C : String} (cw : CallW R s args own C index y bytes maxL ret ws rm 0 0 n)
    {q0 ci : Nat} {q : vw_C} {fs : List Value} (he : (enc w)[q0]? = some (b, .inr (ci, fs))) (hc : vwCl[ci]? = some q) (hC : q.1 = C) (hn : As.length = n) (hsz : ls.size = nL) (hst : st = As.reverse ++ .ref b :: rest) (hW : (rest.map fun v => v.category).sum ≤ 8) (hdg : decode cc pc = .ok (.invokevirtual index, 3)) :
    va_Run p l e R s m args below meth c H locs 0 0 0 0 (F0 m pc ls st) rest (Qc (Value.ref b :: As).toArray) (va_A (enc w) H.size) := by
  have hpre := X.pre hG hP hS (.ref b :: As)
  obtain ⟨hx, hb, hml, hown, hts, hK, hD, hA, hg⟩ := X
  subst hst
  exact va_runV (C := C) ⟨hx, hb, hml, hown, hts⟩ hM cw ⟨PB_blind hG, by rw [← hC]; exact va_recv hK hP hc he, hpre⟩ rfl hn hsz rfl (by show 2 * 0 + _ ≤ 8; omega) hdg ⟨Nat.zero_le _, Nat.zero_le _⟩
theorem x_runS (X : Cx p s m args c cc nL own Ts D c3 enc G A) (hG : GOk G) (hP : va_P D vwCl (enc w) H) (hS : va_S A s.heap H locs) (hM : Met l y ws rm (PB D c3 enc G As w H.size) Qc 0 0 (va_A (enc w) H.size)) (cw : CallB R s args own index y bytes maxL ret ws rm 0 0 n ∧ (Cond.static y).before args s = true)
    (hn : As.length = n) (hsz : ls.size = nL) (hst : st = As.reverse ++ rest) (hW : (rest.map fun v => v.category).sum ≤ 8) (hdg : decode cc pc = .ok (.invokestatic index, 3)) :
    va_Run p l e R s m args below meth c H locs 0 0 0 0 (F0 m pc ls st) rest (Qc As.toArray) (va_A (enc w) H.size) := by
  have hpre := X.pre hG hP hS As
  obtain ⟨hx, hb, hml, hown, hts, hK, hD, hA, hg⟩ := X
  subst hst
  exact va_runS ⟨hx, hb, hml, hown, hts⟩ hM cw ⟨PB_blind hG, hpre⟩ rfl hn hsz rfl (by show 2 * 0 + _ ≤ 8; omega) hdg ⟨Nat.zero_le _, Nat.zero_le _⟩
theorem x_runSN (X : Cx p s m args c cc nL own Ts D c3 enc G A) (hG : GOk G) (hP : va_P D vwCl (enc w) H) (hS : va_S A s.heap H locs) (hM : Met l y ws rm (PB D c3 enc G As w H.size) Qc 0 0 (va_A (enc w) H.size)) {host : String} (cw : va_CN R s args own index y host bytes maxL ret ws rm 0 0 n ∧ (Cond.static y).before args s = true ∧ True)
    (hn : As.length = n) (hsz : ls.size = nL) (hst : st = As.reverse ++ rest) (hW : (rest.map fun v => v.category).sum ≤ 8) (hdg : decode cc pc = .ok (.invokestatic index, 3)) :
    va_Run p l e R s m args below meth c H locs 0 0 0 0 (F0 m pc ls st) rest (Qc As.toArray) (va_A (enc w) H.size) := by
  have hpre := X.pre hG hP hS As
  obtain ⟨hx, hb, hml, hown, hts, hK, hD, hA, hg⟩ := X
  subst hst
  exact va_runSN ⟨hx, hb, hml, hown, hts⟩ hM cw ⟨PB_blind hG, hpre⟩ rfl hn hsz rfl (by show 2 * 0 + _ ≤ 8; omega) hdg ⟨Nat.zero_le _, Nat.zero_le _⟩
variable {a : Array Value}
theorem x_goi {r : Int32} (X : Cx p s m args c cc nL own Ts D c3 enc G A) (hS : va_S A s.heap H locs) (hr : va_Run p l e R s m args below meth c H locs 0 0 0 0 (F0 m pc ls st) rest (va_Qi (fun r2 u => r2 = r ∧ u = w') (BB D enc) (va_A (enc w) H.size) a) (va_A (enc w) H.size))
    (kk : ∀ (H1 : Heap) (locs1 : List Loc), va_P D vwCl (enc w') H1 → va_S A s.heap H1 locs1 → W p l e R s m args below meth c H1 locs1 0 0 Q (F0 m (pc + 3) ls (.int r :: rest))) : W p l e R s m args below meth c H locs 0 0 Q (F0 m pc ls st) := by
  have hf := X.free (w := w) hS
  refine va_calli hr hS (fun q _ h => hf q h) hf (fun r2 u t H1 locs1 ht _ hp hB _ _ hS1 => ?_)
  obtain ⟨rfl, rfl⟩ := hp
  exact kk H1 locs1 (by rw [← ht]; exact hB) hS1
theorem x_gol {r : Int64} (X : Cx p s m args c cc nL own Ts D c3 enc G A) (hS : va_S A s.heap H locs) (hr : va_Run p l e R s m args below meth c H locs 0 0 0 0 (F0 m pc ls st) rest (va_Ql (fun r2 u => r2 = r ∧ u = w') (BB D enc) (va_A (enc w) H.size) a) (va_A (enc w) H.size))
    (kk : ∀ (H1 : Heap) (locs1 : List Loc), va_P D vwCl (enc w') H1 → va_S A s.heap H1 locs1 → W p l e R s m args below meth c H1 locs1 0 0 Q (F0 m (pc + 3) ls (.long r :: rest))) : W p l e R s m args below meth c H locs 0 0 Q (F0 m pc ls st) := by
  have hf := X.free (w := w) hS
  refine va_calll hr hS (fun q _ h => hf q h) hf (fun r2 u t H1 locs1 ht _ hp hB _ _ hS1 => ?_)
  obtain ⟨rfl, rfl⟩ := hp
  exact kk H1 locs1 (by rw [← ht]; exact hB) hS1
theorem x_gov (X : Cx p s m args c cc nL own Ts D c3 enc G A) (hS : va_S A s.heap H locs) (hr : va_Run p l e R s m args below meth c H locs 0 0 0 0 (F0 m pc ls st) rest (va_Qv (fun u => u = w') (BB D enc) (va_A (enc w) H.size) a) (va_A (enc w) H.size))
    (kk : ∀ (H1 : Heap) (locs1 : List Loc), va_P D vwCl (enc w') H1 → va_S A s.heap H1 locs1 → W p l e R s m args below meth c H1 locs1 0 0 Q (F0 m (pc + 3) ls rest)) : W p l e R s m args below meth c H locs 0 0 Q (F0 m pc ls st) := by
  have hf := X.free (w := w) hS
  refine va_callv hr hS (fun q _ h => hf q h) hf (fun u t H1 locs1 ht _ hp hB _ _ hS1 => ?_)
  cases hp
  exact kk H1 locs1 (by rw [← ht]; exact hB) hS1
/-! arrays, fields -/
theorem x_iald (X : Cx p s m args c cc nL own Ts D c3 enc G A) (hP : va_P D vwCl (enc w) H) {q a n : Nat} {f : Nat → Int32} (ha : (enc w)[q]? = some (a, .inl (c3.1, n, .inl f))) {i : Int32} (hin : inb i n = true) (hdg : decode cc pc = .ok (.iaload, 1))
    (kk : W p l e R s m args below meth c H locs 0 0 Q (F0 m (pc + 1) ls (.int (f i.toNatClampNeg) :: rest))) : W p l e R s m args below meth c H locs 0 0 Q (F0 m pc ls (.int i :: .ref a :: rest)) := by
  obtain ⟨hx, hb, -, -, -, hK, -⟩ := X
  exact va_iald hx hb hK hP q 0 ha rfl (inb_vp hin) hdg kk
theorem x_lald (X : Cx p s m args c cc nL own Ts D c3 enc G A) (hP : va_P D vwCl (enc w) H) {q a n : Nat} {f : Nat → Int64} (ha : (enc w)[q]? = some (a, .inl (c3.2.1, n, .inr (.inl f)))) {i : Int32} (hin : inb i n = true) (hdg : decode cc pc = .ok (.laload, 1))
    (kk : W p l e R s m args below meth c H locs 0 0 Q (F0 m (pc + 1) ls (.long (f i.toNatClampNeg) :: rest))) : W p l e R s m args below meth c H locs 0 0 Q (F0 m pc ls (.int i :: .ref a :: rest)) := by
  obtain ⟨hx, hb, -, -, -, hK, -⟩ := X
  exact va_lald hx hb hK hP q 1 ha rfl (inb_vp hin) hdg kk
theorem x_aald (X : Cx p s m args c cc nL own Ts D c3 enc G A) (hP : va_P D vwCl (enc w) H) {q a n : Nat} {f : Nat → Option Nat} (ha : (enc w)[q]? = some (a, .inl (c3.2.2, n, .inr (.inr (.inr (.inr f)))))) {i : Int32} (hin : inb i n = true) {z : Nat} (hz : f i.toNatClampNeg = some z) (hdg : decode cc pc = .ok (.aaload, 1))
    (kk : W p l e R s m args below meth c H locs 0 0 Q (F0 m (pc + 1) ls (.ref z :: rest))) : W p l e R s m args below meth c H locs 0 0 Q (F0 m pc ls (.int i :: .ref a :: rest)) := by
  obtain ⟨hx, hb, -, -, -, hK, -⟩ := X
  have hin := inb_vp hin
  have hlt : i.toNatClampNeg < n := Nat.not_le.mp fun q => hin (Or.inr q)
  have e1 : Value.ref z = va_rf (f i.toNatClampNeg) := by rw [hz]; rfl
  rw [e1] at kk
  exact W.aald (v := va_rf (f i.toNatClampNeg)) (ty := .array .int) hx hb (hP q _ ha) ((hK.2 2 _ rfl).1 n (fun j => va_rf (f j))) rfl (fun q => by cases q) (by show ¬ (i < 0 ∨ (arrV _ _ _).slots.size ≤ _); rw [arrV_size]; exact hin) (by show (arrV _ _ _).slots[_]? = _; rw [arrV_read _ _ hlt]) rfl rfl hdg kk
theorem x_alen (X : Cx p s m args c cc nL own Ts D c3 enc G A) (hP : va_P D vwCl (enc w) H) {q a : Nat} {z : vp_A} (ha : (enc w)[q]? = some (a, .inl (c3.1, z))) {v : Int32} (hv : Int32.ofNat z.1 = v) (hdg : decode cc pc = .ok (.arraylength, 1))
    (kk : W p l e R s m args below meth c H locs 0 0 Q (F0 m (pc + 1) ls (.int v :: rest))) : W p l e R s m args below meth c H locs 0 0 Q (F0 m pc ls (.ref a :: rest)) := by
  obtain ⟨hx, hb, -, -, -, hK, -⟩ := X
  exact va_alen hx hb hK hP q 0 ha (ty := .int) rfl hv hdg kk
theorem x_alenL (X : Cx p s m args c cc nL own Ts D c3 enc G A) (hP : va_P D vwCl (enc w) H) {q a : Nat} {z : vp_A} (ha : (enc w)[q]? = some (a, .inl (c3.2.1, z))) {v : Int32} (hv : Int32.ofNat z.1 = v) (hdg : decode cc pc = .ok (.arraylength, 1))
    (kk : W p l e R s m args below meth c H locs 0 0 Q (F0 m (pc + 1) ls (.int v :: rest))) : W p l e R s m args below meth c H locs 0 0 Q (F0 m pc ls (.ref a :: rest)) := by
  obtain ⟨hx, hb, -, -, -, hK, -⟩ := X
  exact va_alen hx hb hK hP q 1 ha (ty := .long) rfl hv hdg kk
theorem x_alenQ (X : Cx p s m args c cc nL own Ts D c3 enc G A) (hP : va_P D vwCl (enc w) H) {q a : Nat} {z : vp_A} (ha : (enc w)[q]? = some (a, .inl (c3.2.2, z))) {v : Int32} (hv : Int32.ofNat z.1 = v) (hdg : decode cc pc = .ok (.arraylength, 1))
    (kk : W p l e R s m args below meth c H locs 0 0 Q (F0 m (pc + 1) ls (.int v :: rest))) : W p l e R s m args below meth c H locs 0 0 Q (F0 m pc ls (.ref a :: rest)) := by
  obtain ⟨hx, hb, -, -, -, hK, -⟩ := X
  exact va_alen hx hb hK hP q 2 ha (ty := .array .int) rfl hv hdg kk
theorem x_iast (X : Cx p s m args c cc nL own Ts D c3 enc G A) (hP : va_P D vwCl (enc w) H) (hS : va_S A s.heap H locs) {q a n : Nat} {f : Nat → Int32} (ha : (enc w)[q]? = some (a, .inl (c3.1, n, .inl f))) {i x : Int32} (hs : (enc w).set q (a, .inl (c3.1, n, .inl (upd f i.toNatClampNeg x))) = enc (sA w q i.toNatClampNeg x)) (hin : inb i n = true) (hdg : decode cc pc = .ok (.iastore, 1))
    (kk : ∀ (H1 : Heap) (locs1 : List Loc), va_P D vwCl (enc (sA w q i.toNatClampNeg x)) H1 → va_S A s.heap H1 locs1 → W p l e R s m args below meth c H1 locs1 0 0 Q (F0 m (pc + 1) ls rest)) : W p l e R s m args below meth c H locs 0 0 Q (F0 m pc ls (.int x :: .int i :: .ref a :: rest)) := by
  obtain ⟨hx, hb, -, -, -, hK, hD, -⟩ := X
  exact va_iast hx hb hK hP (hD w) hS q 0 ha rfl (inb_vp hin) hdg (fun H1 locs1 h1 _ h3 => kk H1 locs1 (by rw [← hs]; exact h1) h3)
theorem x_last (X : Cx p s m args c cc nL own Ts D c3 enc G A) (hP : va_P D vwCl (enc w) H) (hS : va_S A s.heap H locs) {q a n : Nat} {f : Nat → Int64} (ha : (enc w)[q]? = some (a, .inl (c3.2.1, n, .inr (.inl f)))) {i : Int32} {x : Int64} (hs : (enc w).set q (a, .inl (c3.2.1, n, .inr (.inl (vp_updL f i.toNatClampNeg x)))) = enc (sL w q i.toNatClampNeg x)) (hin : inb i n = true) (hdg : decode cc pc = .ok (.lastore, 1))
    (kk : ∀ (H1 : Heap) (locs1 : List Loc), va_P D vwCl (enc (sL w q i.toNatClampNeg x)) H1 → va_S A s.heap H1 locs1 → W p l e R s m args below meth c H1 locs1 0 0 Q (F0 m (pc + 1) ls rest)) : W p l e R s m args below meth c H locs 0 0 Q (F0 m pc ls (.long x :: .int i :: .ref a :: rest)) := by
  obtain ⟨hx, hb, -, -, -, hK, hD, -⟩ := X
  exact va_last hx hb hK hP (hD w) hS q 1 ha rfl (inb_vp hin) hdg (fun H1 locs1 h1 _ h3 => kk H1 locs1 (by rw [← hs]; exact h1) h3)
theorem x_get (X : Cx p s m args c cc nL own Ts D c3 enc G A) (hP : va_P D vwCl (enc w) H) {q a ci : Nat} {C : String} {T : u_T} {N : Nat} {fs : List Value} (he : (enc w)[q]? = some (a, .inr (ci, fs))) (hc : vwCl[ci]? = some (C, T, N)) (hin : ∀ w ∈ u_ws C T N, w ∈ Ts) (k : Nat) (hk : k < N) {index : Nat} (hl : Cond.fieldLink own index (T k).1 (T k).2.1 (T k).2.2.1 ∈ Ts) {v : Value} (hv : fs[k]? = some v) (hdg : decode cc pc = .ok (.getfield index, 3))
    (kk : W p l e R s m args below meth c H locs 0 0 Q (F0 m (pc + 3) ls (v :: rest))) : W p l e R s m args below meth c H locs 0 0 Q (F0 m pc ls (.ref a :: rest)) := by
  obtain ⟨hx, hb, -, hown, hts, hK, -⟩ := X
  exact va_get hx hb hts hin hown hK hP q he hc k hk (hts _ hl) (fun _ h => h) hv hdg kk
theorem x_put (X : Cx p s m args c cc nL own Ts D c3 enc G A) (hP : va_P D vwCl (enc w) H) (hS : va_S A s.heap H locs) {q a ci : Nat} {C : String} {T : u_T} {N : Nat} {fs : List Value} (he : (enc w)[q]? = some (a, .inr (ci, fs))) (hc : vwCl[ci]? = some (C, T, N)) (hin : ∀ w ∈ u_ws C T N, w ∈ Ts) (ty0 : Nat → FieldType) (hty : ∀ k, k < N → parseFieldDescriptor (T k).2.2.1 = some (ty0 k)) (hnm : ∀ a, a < N → ∀ b, b < N → a ≠ b → (T a).2.1 ≠ (T b).2.1) (k : Nat) (hk : k < N) {index : Nat} (hl : Cond.fieldLink own index (T k).1 (T k).2.1 (T k).2.2.1 ∈ Ts) (hfin : (T k).2.2.2 = false) {v : Value} (hn : narrow (ty0 k) v = v) (hfit : fits (ty0 k) v = true) (hlen : k < fs.length) {w2 : Mm} (hs : (enc w).set q (a, .inr (ci, fs.set k v)) = enc w2) (hdg : decode cc pc = .ok (.putfield index, 3))
    (kk : ∀ (H1 : Heap) (locs1 : List Loc), va_P D vwCl (enc w2) H1 → va_S A s.heap H1 locs1 → W p l e R s m args below meth c H1 locs1 0 0 Q (F0 m (pc + 3) ls rest)) : W p l e R s m args below meth c H locs 0 0 Q (F0 m pc ls (v :: .ref a :: rest)) := by
  obtain ⟨hx, hb, -, hown, hts, hK, hD, -⟩ := X
  exact va_put hx hb hts hin ty0 hty hnm hown hK hP (hD w) hS q he hc k hk (hts _ hl) (fun _ h => h) hfin (hty k hk) hn hfit hlen hdg (fun H1 locs1 h1 _ h3 => kk H1 locs1 (by rw [← hs]; exact h1) h3)
theorem x_nmi {γ : Type} {x : Int32} {k : Int32 → Option γ} {r : γ} {cells slots : Nat} (h : nm x k = some r) (kk : ∀ y, k y = some r → W p l e R s m args below meth c H locs cells slots Q (F0 m pc ls (.int y :: rest))) : W p l e R s m args below meth c H locs cells slots Q (F0 m pc ls (.int x :: rest)) := kk x h
theorem x_nml {γ : Type} {x : Int64} {k : Int64 → Option γ} {r : γ} {cells slots : Nat} (h : nm x k = some r) (kk : ∀ y, k y = some r → W p l e R s m args below meth c H locs cells slots Q (F0 m pc ls (.long y :: rest))) : W p l e R s m args below meth c H locs cells slots Q (F0 m pc ls (.long x :: rest)) := kk x h
end BC

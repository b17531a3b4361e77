/-! a new array of two dimensions, out of the model itself: the row of rows first, then its rows, each written into its place as soon as it is made -/
/-- the row of rows when i of its rows are there: the j-th one lies at h + 1 + j -/
def mu_top (cA : ClassId) (N h i : Nat) : Cell := arrV cA N (fun j => va_rf (if j < i then some (h + 1 + j) else none))
theorem mu_top_size (cA : ClassId) (N h i : Nat) : (mu_top cA N h i).slots.size = N := arrV_size cA N _
theorem mu_top_zero (cA : ClassId) (N h : Nat) : ({ cls := cA, slots := Array.replicate N .null, vm := .none } : Cell) = mu_top cA N h 0 := by
  rw [arrV_new]
  exact congrArg (arrV cA N) (funext fun j => by simp [va_rf])
theorem mu_top_more (cA : ClassId) (N h i : Nat) : (mu_top cA N h i).setSlot i (.ref (h + 1 + i)) = mu_top cA N h (i + 1) := by
  unfold mu_top
  rw [arrV_store]
  refine congrArg (arrV cA N) (funext fun j => ?_)
  unfold updV
  by_cases e : j = i
  · rw [if_pos e, if_pos (by omega), e]
    rfl
  · rw [if_neg e]
    show va_rf (if j < i then some (h + 1 + j) else none) = _
    by_cases hj : j < i
    · rw [if_pos hj, if_pos (by omega)]
    · rw [if_neg hj, if_neg (by omega)]
/-- the state when i rows are there -/
def mu_st (s : State) (cA cy : ClassId) (N K : Nat) (v : Value) : Nat → State
  | 0 => s.pushCell (mu_top cA N s.heap.size 0)
  | i + 1 => ((mu_st s cA cy N K v i).pushCell (arrV cy K (fun _ => v))).setCell s.heap.size (mu_top cA N s.heap.size (i + 1))
/-- what can be seen of such a state -/
def mu_ok (s : State) (cA cy : ClassId) (N K : Nat) (v : Value) (i : Nat) (u : State) : Prop :=
  u.heap.size = s.heap.size + 1 + i ∧ u.heap[s.heap.size]? = some (mu_top cA N s.heap.size i) ∧ (∀ x, x < s.heap.size → u.heap[x]? = s.heap[x]?) ∧
    (∀ j, j < i → u.heap[s.heap.size + 1 + j]? = some (arrV cy K (fun _ => v))) ∧ u.vm = s.vm ∧ u.slotsUsed = s.slotsUsed + N + i * K
theorem mu_st_ok (s : State) (cA cy : ClassId) (N K : Nat) (v : Value) (i : Nat) : mu_ok s cA cy N K v i (mu_st s cA cy N K v i) := by
  induction i with
  | zero =>
    refine ⟨State.heap_size_pushCell _ _, State.heap_pushCell_size _ _, fun x hx => State.heap_pushCell_of_lt _ _ hx, fun j hj => absurd hj (Nat.not_lt_zero j), rfl, ?_⟩
    show s.slotsUsed + (mu_top cA N s.heap.size 0).slots.size = _
    rw [mu_top_size]
    omega
  | succ i ih =>
    obtain ⟨h1, h2, h3, h4, h5, h6⟩ := ih
    generalize hu : mu_st s cA cy N K v i = u at h1 h2 h3 h4 h5 h6
    have e : mu_st s cA cy N K v (i + 1) = (u.pushCell (arrV cy K (fun _ => v))).setCell s.heap.size (mu_top cA N s.heap.size (i + 1)) := by
      rw [← hu]
      rfl
    have hp : ∀ x, x < s.heap.size + 1 + i → (u.pushCell (arrV cy K (fun _ => v))).heap[x]? = u.heap[x]? := fun x hx => State.heap_pushCell_of_lt _ _ (by rw [h1]; exact hx)
    rw [e]
    refine ⟨?_, State.heap_setCell_self ((hp _ (by omega)).trans h2), fun x hx => ?_, fun j hj => ?_, h5, ?_⟩
    · show ((u.pushCell (arrV cy K (fun _ => v))).heap.setIfInBounds _ _).size = _
      rw [Array.size_setIfInBounds, State.heap_size_pushCell, h1]
      omega
    · rw [State.heap_setCell_other (Nat.ne_of_gt hx), hp x (by omega)]
      exact h3 x hx
    · rw [State.heap_setCell_other (show s.heap.size ≠ s.heap.size + 1 + j by omega)]
      by_cases hji : j < i
      · rw [hp _ (by omega)]
        exact h4 j hji
      · have ej : s.heap.size + 1 + j = u.heap.size := by omega
        rw [ej]
        exact State.heap_pushCell_size _ _
    · show u.slotsUsed + (arrV cy K (fun _ => v)).slots.size = _
      rw [h6, arrV_size, Nat.succ_mul]
      omega
theorem mu_st_top (s : State) (f : JFrame) (cA cy : ClassId) (N K : Nat) (v : Value) (i : Nat) : mu_st (s.setTop f) cA cy N K v i = (mu_st s cA cy N K v i).setTop f := by
  induction i with
  | zero => rfl
  | succ i ih =>
    show ((mu_st (s.setTop f) cA cy N K v i).pushCell _).setCell _ _ = _
    rw [ih]
    rfl
section MUW
variable {E : CtlPost} {e : Env} {d : Bool} {acts : List Action} {s : State}
/-- one row -/
theorem mu_one {cy cm : ClassId} {kc : Class} {ty : FieldType} {k : Int32} (h1 : s.vm.classes[cy]? = some kc) (h2 : kc.kind = .array cm ty) (hk : ¬ k < 0) (hl : ¬ k.toNatClampNeg > e.platform.arrayLengthLimit) (hh : ¬ k.toNatClampNeg * componentBytes ty > e.platform.maxHeapBytes)
    (hf : fits ty (defaultValue ty) = true) (hc : s.heap.size < e.platform.maxCells) (hs : s.slotsUsed + k.toNatClampNeg ≤ e.platform.maxSlots) {Q : Addr → Pre} (hq : ∀ acts', Q s.heap.size d acts' (s.pushCell (arrV cy k.toNatClampNeg (fun _ => defaultValue ty)))) : wp (Jvm.Op.multianewarray.make cy [k]) Q E e d acts s := by
  unfold Jvm.Op.multianewarray.make
  simp only [wp_bind', Jvm.W.ite, hk, if_false, wp_pure', Jvm.W.theClass, h1, h2, Option.some.injEq, exists_eq_left']
  refine Jvm.W.newArray_of h1 h2 hl hh hc hs hf (fun acts' => ?_)
  rw [arrV_new]
  exact hq acts'
/-- the row of rows, and its rows -/
theorem mu_two {cA cy cm : ClassId} {kA kc : Class} {ty : FieldType} {n k : Int32} {N K : Nat} (hN : n.toNatClampNeg = N) (hK : k.toNatClampNeg = K) (hA : s.vm.classes[cA]? = some kA) (hAk : kA.kind = .array cy (.array ty)) (h1 : s.vm.classes[cy]? = some kc) (h2 : kc.kind = .array cm ty) (hn : ¬ n < 0) (hk : ¬ k < 0)
    (hl1 : ¬ N > e.platform.arrayLengthLimit) (hh1 : ¬ N * componentBytes (.array ty) > e.platform.maxHeapBytes) (hl2 : ¬ K > e.platform.arrayLengthLimit) (hh2 : ¬ K * componentBytes ty > e.platform.maxHeapBytes)
    (hf : fits ty (defaultValue ty) = true) (hc : s.heap.size + (1 + N) ≤ e.platform.maxCells) (hs : s.slotsUsed + (N + N * K) ≤ e.platform.maxSlots) {Q : Addr → Pre} (hq : ∀ d' acts', Q s.heap.size d' acts' (mu_st s cA cy N K (defaultValue ty) N)) : wp (Jvm.Op.multianewarray.make cA [n, k]) Q E e d acts s := by
  subst hN
  subst hK
  have hno : [k].find? (· < 0) = none := by simp [hk]
  rw [Jvm.Op.multianewarray.make]
  simp only [wp_bind', Jvm.W.ite, hn, if_false, wp_pure', Jvm.W.theClass, hA, hAk, Option.some.injEq, exists_eq_left']
  refine Jvm.W.newArray_of hA hAk hl1 hh1 (by omega) (by omega) rfl (fun acts1 => ?_)
  simp only [hno]
  rw [ite_self, wp_bind', Std.Legacy.Range.forIn_eq_forIn_range']
  have hsz : ([:n.toNatClampNeg] : Std.Legacy.Range).size = n.toNatClampNeg := by simp [Std.Legacy.Range.size]
  rw [hsz]
  show wp (forIn (List.range' 0 n.toNatClampNeg 1) PUnit.unit _) _ E e d acts1 _
  refine wp_forIn_inv (fun r u => r.length ≤ n.toNatClampNeg ∧ r = List.range' (n.toNatClampNeg - r.length) r.length ∧ u = mu_st s cA cy n.toNatClampNeg k.toNatClampNeg (defaultValue ty) (n.toNatClampNeg - r.length)) _ _ ⟨by simp, by simp, ?_⟩ ?_ ?_
  · rw [List.length_range', Nat.sub_self, mu_top_zero cA n.toNatClampNeg s.heap.size]
    rfl
  · intro x r u d' acts' Q' hI hnext
    obtain ⟨hr, hx, hu⟩ := hI
    rw [List.length_cons] at hr hx hu
    rw [List.range'_succ] at hx
    obtain ⟨ex, er⟩ := List.cons.inj hx
    have e1 : n.toNatClampNeg - (r.length + 1) + 1 = n.toNatClampNeg - r.length := by omega
    have hxN : x < n.toNatClampNeg := by omega
    rw [← ex] at hu
    obtain ⟨f1, f2, -, -, f5, f6⟩ := mu_st_ok s cA cy n.toNatClampNeg k.toNatClampNeg (defaultValue ty) x
    rw [← hu] at f1 f2 f5 f6
    have hroom : x * k.toNatClampNeg + k.toNatClampNeg ≤ n.toNatClampNeg * k.toNatClampNeg := by
      rw [← Nat.succ_mul]
      exact Nat.mul_le_mul_right _ hxN
    simp only [wp_bind']
    refine mu_one (by rw [f5]; exact h1) h2 hk hl2 hh2 hf (by omega) (by omega) (fun acts2 => ?_)
    have hlt : s.heap.size < u.heap.size := by omega
    simp only [wp_bind', Jvm.W.writeLoc, wp_pure']
    refine ⟨_, (State.heap_pushCell_of_lt _ _ hlt).trans f2, (fun h => by cases h), (by rw [mu_top_size]; exact hxN), ?_, hnext _ _ _ ⟨by omega, ?_, ?_⟩⟩
    · show (u.pushCell _).fitsSlot cA .none x _ = true
      simp [State.fitsSlot, State.slotType?, f5, hA, hAk, fits]
    · rw [← e1]
      exact er
    · rw [f1, mu_top_more, ← e1, ← ex, hu]
      rfl
  · intro u d' acts' hI
    obtain ⟨-, -, hu⟩ := hI
    rw [hu]
    simp only [wp_pure']
    exact hq _ _
end MUW
section MUS
variable {p : Program} {l : Launch} {e : Env} {R : Room} {s : State} {m : MethodId} {args : Array Value} {below : List Frame} {meth : Method} {c : Code} {T : State} {H : Heap} {locs : List Loc} {cells slots : Nat} {Q : State → Prop}
theorem mu_stand (X : Stand p l e R s m args below meth c T locs cells slots) (hg : s.heap.size ≤ T.heap.size) (cA cy : ClassId) (N K : Nat) (v : Value) (i : Nat) : Stand p l e R s m args below meth c (mu_st T cA cy N K v i) locs (cells + 1 + i) (slots + N + i * K) := by
  induction i with
  | zero =>
    have h := X.pushed (mu_top cA N T.heap.size 0)
    rw [mu_top_size] at h
    rw [Nat.zero_mul]
    exact h
  | succ i ih =>
    obtain ⟨h1, h2, -⟩ := mu_st_ok T cA cy N K v i
    have hlt : T.heap.size < (mu_st T cA cy N K v i).heap.size := by omega
    have h := (ih.pushed (arrV cy K (fun _ => v))).stored ((State.heap_pushCell_of_lt _ _ hlt).trans h2) i (.ref (T.heap.size + 1 + i))
    rw [mu_top_more, arrV_size] at h
    have h9 := h.dropFresh (fun x hx => by
      rw [List.mem_singleton.mp hx]
      exact hg)
    rw [show slots + N + (i + 1) * K = slots + N + i * K + K by rw [Nat.succ_mul]; omega]
    exact h9
/-- the instruction -/
theorem mu_new2 {cc : ByteArray} {pc : Nat} {ls : Array Slot} {rest : List Value} (hexec : p.tables.exec = Jvm.exec) (hb : c.code = cc) {own : String} {index : Nat} {ty : FieldType} (hown : s.vm.findClass own = some m.cls) (hclink : (Cond.classLink own index ("[" ++ (FieldType.array ty).toString)).before args s = true)
    (hover : (Cond.arrayOver (.array ty)).before args s = true) (harr : (Cond.arrayClass ty).before args s = true) {n k : Int32} {N K : Nat} (hN : n.toNatClampNeg = N) (hK : k.toNatClampNeg = K) (hn : ¬ n < 0) (hk : ¬ k < 0) (hb1 : N * 4 ≤ 536870912) (hb2 : K * componentBytes ty ≤ 536870912) (hb3 : K ≤ 536870912) (hf : fits ty (defaultValue ty) = true)
    (hcells : cells + (1 + N) ≤ R.cells) (hslots : slots + (N + N * K) ≤ R.slots) (hdg : decode cc pc = .ok (.multianewarray index 2, 4))
    (kk : ∀ (cA cy : ClassId) (F : Heap), s.vm.findClass ("[" ++ (FieldType.array ty).toString) = some cA → s.vm.findClass (FieldType.array ty).toString = some cy → ArrOfT s cA (.array ty) → F.size = H.size + 1 + N → F[H.size]? = some (mu_top cA N H.size N) → (∀ x, x < H.size → F[x]? = H[x]?) → (∀ j, j < N → F[H.size + 1 + j]? = some (arrV cy K (fun _ => defaultValue ty))) →
      W p l e R s m args below meth c F locs (cells + 1 + N) (slots + N + N * K) Q (F0 m (pc + 4) ls (.ref H.size :: rest))) : W p l e R s m args below meth c H locs cells slots Q (F0 m pc ls (.int k :: .int n :: rest)) := by
  intro T hT X
  subst hT
  subst hb
  have hpl : e.platform.magicAccessors = ({} : Platform).magicAccessors := by rw [X.admits.platform]
  obtain ⟨cy, cA, kA, a1, -, a3, a4, a5⟩ := arrayOverA_spec hover
  obtain ⟨cy2, kc, cm, b1, b2, b3⟩ := Cond.arrayClass_spec harr
  cases a1.symm.trans b1
  obtain ⟨cA2, c1, hcl⟩ := Cond.classLink_spec hown hclink e.platform hpl
  cases a5.symm.trans c1
  obtain ⟨hg1, hw1, -⟩ := State.classEntry (e := e) X.warmed hcl
  generalize T.vm.noted m.cls index (.cls cA) = vm1 at hg1 hw1
  obtain ⟨kA1, d1, d2⟩ := hw1.alike.2.2 _ _ a3
  obtain ⟨kc1, d3, d4⟩ := hw1.alike.2.2 _ _ b2
  have d5 : kA1.kind = .array cy (.array ty) := by rw [d2]; exact a4
  have d6 : kc1.kind = .array cm ty := by rw [d4]; exact b3
  obtain ⟨r1, r2⟩ := X.roomAbove hcells hslots
  have XF := mu_stand (X.noted hw1) X.heapGrown cA cy N K (defaultValue ty) N
  obtain ⟨f1, f2, f3, f4, -, -⟩ := mu_st_ok (T.setVm vm1) cA cy N K (defaultValue ty) N
  obtain ⟨t, q1, q2⟩ := kk cA cy _ a5 a1 (fun z1 z2 => ⟨(fun q hq => by cases hq), kA, a3, cy, a4⟩) f1 f2 f3 f4 (mu_st (T.setVm vm1) cA cy N K (defaultValue ty) N) rfl XF
  refine ⟨t, ?_, q2⟩
  have l1 : ¬ N > e.platform.arrayLengthLimit := by rw [Launch.admits_arrayLengthLimit X.admits]; omega
  have l2 : ¬ N * componentBytes (.array ty) > e.platform.maxHeapBytes := by
    rw [Launch.admits_maxHeapBytes X.admits]
    show ¬ N * 4 > 536870912
    omega
  have l3 : ¬ K > e.platform.arrayLengthLimit := by rw [Launch.admits_arrayLengthLimit X.admits]; omega
  have l4 : ¬ K * componentBytes ty > e.platform.maxHeapBytes := by rw [Launch.admits_maxHeapBytes X.admits]; omega
  jvm_step X.here [hexec, hdg]
  simp only [Jvm.Op.multianewarray.sem, wp_bind', Jvm.W.resolveClassAt_links (t := T.setTop (F0 m pc ls (.int k :: .int n :: rest))) (vm' := vm1) (State.method?_setTop (F0 m pc ls (.int k :: .int n :: rest)) X.here.top) hg1]
  rw [Jvm.W.popN, if_neg (by decide)]
  refine ⟨_, State.topJava?_setTop' (s := T.setVm vm1) _ X.here.top, [.int n, .int k], rest, rfl, rfl, ?_⟩
  simp only [List.mapM_cons, List.mapM_nil, wp_bind', wp_pure']
  refine mu_two (s := ((T.setTop (F0 m pc ls (.int k :: .int n :: rest))).setVm vm1).setTop (F0 m pc ls rest)) hN hK d1 d5 d3 d6 hn hk l1 l2 l3 l4 hf r1 r2 (fun d' acts' => ?_)
  rw [show ((T.setTop (F0 m pc ls (.int k :: .int n :: rest))).setVm vm1).setTop (F0 m pc ls rest) = (T.setVm vm1).setTop (F0 m pc ls rest) from State.setTop_setTop (T.setVm vm1) _ _, mu_st_top]
  simp only [wp_bind', Jvm.W.mark, Jvm.W.pushRef, State.topJava?_setTop' _ XF.here.top, Option.some.injEq, exists_eq_left', State.setTop_setTop, State.heap_setTop]
  intro acts
  simp [jvm, XF.here.top]
  exact q1
end MUS

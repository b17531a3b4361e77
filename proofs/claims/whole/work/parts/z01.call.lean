/-! the law: calls, the script -/
section ZC
variable {p : Program} {l : Launch} {e : Env} {R : Room} {s : State} {m : MethodId} {args : Array Value} {below : List Frame} {meth : Method} {c : Code} {H : Heap} {locs : List Loc} {Q : State → Prop} {cells slots : Nat}
variable {cc : ByteArray} {nL : Nat} {own : String} {Ts : List Cond} {D : va_G} {c3 : C3} {enc : Mm → va_W} {G : GT} {A : Nat → Prop} {w w' : Mm} {pc : Nat} {ls : Array Slot} {rest st : List Value}
variable {y : MethodName} {bytes : ByteArray} {maxL n index : Nat} {ret : Option FieldType} {ws : List Cond} {rm : Room} {Qc : Array Value → State → Outcome → State → Prop} {b : Addr} {As : List Value} {a : Array Value} {O : va_W}
theorem z_runV (X : Cx p s m args c cc nL own Ts D c3 enc G A) (hG : GOk G) (hP : va_P D vwCl (enc w) H) (hS : va_S A s.heap H locs) (hM : Met l y ws rm (PB D c3 enc G (.ref b :: As) w H.size) Qc 0 0 (va_A (enc w) H.size)) {C : String} (cw : CallW R s args own C index y bytes maxL ret ws rm 0 0 n)
    {q0 ci : Nat} {q : vw_C} {fs : List Value} (he : (enc w)[q0]? = some (b, .inr (ci, fs))) (hc : vwCl[ci]? = some q) (hC : q.1 = C) (hn : As.length = n) (hsz : ls.size = nL) (hst : st = As.reverse ++ .ref b :: rest) (hW : (rest.map fun v => v.category).sum ≤ 8) (hdg : decode cc pc = .ok (.invokevirtual index, 3)) (hf : cells ≤ R.cells ∧ slots ≤ R.slots) :
    va_Run p l e R s m args below meth c H locs cells slots 0 0 (F0 m pc ls st) rest (Qc (Value.ref b :: As).toArray) (va_A (enc w) H.size) := by
  have hpre := X.pre hG hP hS (.ref b :: As)
  obtain ⟨hx, hb, hml, hown, hts, hK, hD, hA, hg⟩ := X
  subst hst
  exact va_runV (C := C) ⟨hx, hb, hml, hown, hts⟩ hM cw ⟨PB_blind hG, by rw [← hC]; exact va_recv hK hP hc he, hpre⟩ rfl hn hsz rfl (by show 2 * 0 + _ ≤ 8; omega) hdg hf
def Apart (X Y : va_W) : Prop := ∀ (k : Nat) (q : Nat × va_E), Y[k]? = some q → ∀ (j : Nat) (e : va_E), ¬ X[j]? = some (q.1, e)
theorem Apart.keep {X Y : va_W} {H1 : Heap} (h : Apart X Y) (hO : va_P D vwCl Y H) (hk : ∀ q : Nat, q < H.size → ¬ va_A X H.size q → H1[q]? = H[q]?) : va_P D vwCl Y H1 := by
  refine hO.kept (fun k q hq => hk q.1 (hO k q hq).lt (fun hA => ?_))
  rcases hA with ⟨j, e, hj⟩ | hA
  · exact h k q hq j e hj
  · have := (hO k q hq).lt
    omega
theorem z_goi {r : Int32} (X : Cx p s m args c cc nL own Ts D c3 enc G A) (hS : va_S A s.heap H locs) (hO : va_P D vwCl O H) (hap : Apart (enc w) O) (hr : va_Run p l e R s m args below meth c H locs cells slots 0 0 (F0 m pc ls st) rest (va_Qi (fun r2 u => r2 = r ∧ u = w') (BB D enc) (va_A (enc w) H.size) a) (va_A (enc w) H.size))
    (kk : ∀ (H1 : Heap) (locs1 : List Loc), va_P D vwCl (enc w') H1 → va_P D vwCl O H1 → va_S A s.heap H1 locs1 → W p l e R s m args below meth c H1 locs1 cells slots Q (F0 m (pc + 3) ls (.int r :: rest))) : W p l e R s m args below meth c H locs cells slots Q (F0 m pc ls st) := by
  have hf := X.free (w := w) hS
  refine va_calli hr hS (fun q _ h => hf q h) hf (fun r2 u t H1 locs1 ht _ hp hB _ hk1 hS1 => ?_)
  obtain ⟨rfl, rfl⟩ := hp
  exact kk H1 locs1 (by rw [← ht]; exact hB) (hap.keep hO hk1) hS1
theorem z_gol {r : Int64} (X : Cx p s m args c cc nL own Ts D c3 enc G A) (hS : va_S A s.heap H locs) (hO : va_P D vwCl O H) (hap : Apart (enc w) O) (hr : va_Run p l e R s m args below meth c H locs cells slots 0 0 (F0 m pc ls st) rest (va_Ql (fun r2 u => r2 = r ∧ u = w') (BB D enc) (va_A (enc w) H.size) a) (va_A (enc w) H.size))
    (kk : ∀ (H1 : Heap) (locs1 : List Loc), va_P D vwCl (enc w') H1 → va_P D vwCl O H1 → va_S A s.heap H1 locs1 → W p l e R s m args below meth c H1 locs1 cells slots Q (F0 m (pc + 3) ls (.long r :: rest))) : W p l e R s m args below meth c H locs cells slots Q (F0 m pc ls st) := by
  have hf := X.free (w := w) hS
  refine va_calll hr hS (fun q _ h => hf q h) hf (fun r2 u t H1 locs1 ht _ hp hB _ hk1 hS1 => ?_)
  obtain ⟨rfl, rfl⟩ := hp
  exact kk H1 locs1 (by rw [← ht]; exact hB) (hap.keep hO hk1) hS1
/-- one number of the script, as the law reads it -/
theorem z_arg {b0 L i k : Nat} {xs : Nat → Int32} {lv : List (Nat × Value)} (hx : p.tables.exec = Jvm.exec) (hb : c.code = cc) (hX : va_X b0 L xs s s.heap) (hbl : b0 < s.heap.size) (hbA : ¬ A b0) (hS : va_S A s.heap H locs) (hl : lv_has ls nL lv) {j0 j3 : Nat} (e0 : lv[j0]? = some (0, .ref b0)) (e3 : lv[j3]? = some (3, .int (nI i))) (hk : i + k < L) (hL : L ≤ 384)
    (d1 : decode cc pc = .ok (.aload_n 0, 1)) (d2 : decode cc (pc + 1) = .ok (.iload_n 3, 1)) (d3 : decode cc (pc + 1 + 1) = .ok (.iconst (k : Int), 1)) (d4 : decode cc (pc + 1 + 1 + 1) = .ok (.iadd, 1)) (d5 : decode cc (pc + 1 + 1 + 1 + 1) = .ok (.iaload, 1))
    (kk : W p l e R s m args below meth c H locs cells slots Q (F0 m (pc + 1 + 1 + 1 + 1 + 1) ls (.int (xs (i + k)) :: rest))) : W p l e R s m args below meth c H locs cells slots Q (F0 m pc ls rest) := by
  refine lv_aload_n hx hb d1 rfl (lv_at hl j0 e0) ?_
  refine lv_iload_n hx hb d2 rfl (lv_at hl j3 e3) ?_
  refine lv_iconst (v := nI k) hx hb d3 rfl ?_
  refine lv_iadd hx hb d4 ?_
  rw [nI_add]
  refine va_sld hx hb hX hbl hbA hS (vp_in_nI hk (by omega)) d5 ?_
  rw [nI_clamp (by omega)]
  exact kk
end ZC

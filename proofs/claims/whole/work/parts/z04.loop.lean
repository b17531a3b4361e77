/-! the law: one call of the script, the loop -/
theorem z_sw {x : Int32} (h : ¬ (x.toInt < 0 ∨ 43 < x.toInt)) : ∃ k : Nat, k < 44 ∧ x = nI k := by
  have h1 : ¬ x.toInt < 0 := fun q => h (Or.inl q)
  have h2 : ¬ 43 < x.toInt := fun q => h (Or.inr q)
  refine ⟨x.toInt.toNat, by omega, ?_⟩
  refine Int32.toInt_inj.mp ?_
  show x.toInt = (Int32.ofNat x.toInt.toNat).toInt
  rw [Int32.toInt_ofNat_of_lt (by omega)]
  omega
set_option maxRecDepth 20000 in
theorem z_call {p : Program} {l : Launch} {e : Env} {s : State} {m : MethodId} {below : List Frame} {meth : Method} {c : Code} {H : Heap} {locs : List Loc} {Q : State → Prop} {D : va_G} {c3 : C3} {ac am : Nat → Nat} {A : Nat → Prop} {b L i : Nat} {xs : Nat → Int32} {ls : Array Slot} {wc wm : Mm} {cells slots : Nat} (XC : Cx p s m #[Value.ref b] c code 4 RL wsL_law D c3 (encC c3 ac) gC A) (XM : Cx p s m #[Value.ref b] c code 4 RL wsL_law D c3 (encM c3 am) gM A) (hcm : ∀ v w, Apart (encC c3 ac v) (encM c3 am w)) (hmc : ∀ v w, Apart (encM c3 am v) (encC c3 ac w)) (hX : va_X b L xs s s.heap) (hbl : b < s.heap.size) (hbA : ¬ A b) (hf : cells ≤ room_1.cells ∧ slots ≤ room_1.slots) (hi : i + 6 ≤ L) (hL : L ≤ 384) (hR : Rel wc wm) (hC : va_P D vwCl (encC c3 ac wc) H) (hM : va_P D vwCl (encM c3 am wm) H) (hS : va_S A s.heap H locs) (hl : lv_has ls 4 [(0, .ref b), (1, .ref (ac 0)), (2, .ref (am 0)), (3, .int (nI i))])
    (kk : ∀ (H1 : Heap) (locs1 : List Loc) (wc1 wm1 : Mm), Rel wc1 wm1 → va_P D vwCl (encC c3 ac wc1) H1 → va_P D vwCl (encM c3 am wm1) H1 → va_S A s.heap H1 locs1 → W p l e room_1 s m #[Value.ref b] below meth c H1 locs1 cells slots Q (F0 m 1479 ls [])) : W p l e room_1 s m #[Value.ref b] below meth c H locs cells slots Q (F0 m 27 ls []) := by
  have hx := XC.1
  have hb := XC.2.1
  refine lv_aload_n hx hb dL_law_27 rfl (lv_at hl 0 rfl) ?_
  refine lv_iload_n hx hb dL_law_28 rfl (lv_at hl 3 rfl) ?_
  refine va_sld hx hb hX hbl hbA hS (vp_in_nI (by omega) (by omega)) dL_law_29 ?_
  refine lv_bipush (v := 63) hx hb dL_law_30 (by decide) ?_
  refine lv_iand hx hb dL_law_32 ?_
  generalize xs (nI i).toNatClampNeg &&& 63 = x
  by_cases h : x.toInt < 0 ∨ 43 < x.toInt
  · exact lv_tableOut (tgt := 1479) hx hb dL_law_33 h (by decide) (kk H locs wc wm hR hC hM hS)
  · obtain ⟨k, hk, rfl⟩ := z_sw h
    match k, hk with
    | 0, _ => exact lv_tableIn (off := 191) (tgt := 224) hx hb dL_law_33 (by decide) (by decide) rfl (by decide) (cs_0 XC XM hcm hmc hX hbl hbA hf hi hL hR hC hM hS hl kk)
    | 1, _ => exact lv_tableIn (off := 224) (tgt := 257) hx hb dL_law_33 (by decide) (by decide) rfl (by decide) (cs_1 XC XM hcm hmc hX hbl hbA hf hi hL hR hC hM hS hl kk)
    | 2, _ => exact lv_tableIn (off := 267) (tgt := 300) hx hb dL_law_33 (by decide) (by decide) rfl (by decide) (cs_2 XC XM hcm hmc hX hbl hbA hf hi hL hR hC hM hS hl kk)
    | 3, _ => exact lv_tableIn (off := 300) (tgt := 333) hx hb dL_law_33 (by decide) (by decide) rfl (by decide) (cs_3 XC XM hcm hmc hX hbl hbA hf hi hL hR hC hM hS hl kk)
    | 4, _ => exact lv_tableIn (off := 323) (tgt := 356) hx hb dL_law_33 (by decide) (by decide) rfl (by decide) (cs_4 XC XM hcm hmc hX hbl hbA hf hi hL hR hC hM hS hl kk)
    | 5, _ => exact lv_tableIn (off := 386) (tgt := 419) hx hb dL_law_33 (by decide) (by decide) rfl (by decide) (cs_5 XC XM hcm hmc hX hbl hbA hf hi hL hR hC hM hS hl kk)
    | 6, _ => exact lv_tableIn (off := 409) (tgt := 442) hx hb dL_law_33 (by decide) (by decide) rfl (by decide) (cs_6 XC XM hcm hmc hX hbl hbA hf hi hL hR hC hM hS hl kk)
    | 7, _ => exact lv_tableIn (off := 442) (tgt := 475) hx hb dL_law_33 (by decide) (by decide) rfl (by decide) (cs_7 XC XM hcm hmc hX hbl hbA hf hi hL hR hC hM hS hl kk)
    | 8, _ => exact lv_tableIn (off := 485) (tgt := 518) hx hb dL_law_33 (by decide) (by decide) rfl (by decide) (cs_8 XC XM hcm hmc hX hbl hbA hf hi hL hR hC hM hS hl kk)
    | 9, _ => exact lv_tableIn (off := 508) (tgt := 541) hx hb dL_law_33 (by decide) (by decide) rfl (by decide) (cs_9 XC XM hcm hmc hX hbl hbA hf hi hL hR hC hM hS hl kk)
    | 10, _ => exact lv_tableIn (off := 531) (tgt := 564) hx hb dL_law_33 (by decide) (by decide) rfl (by decide) (cs_10 XC XM hcm hmc hX hbl hbA hf hi hL hR hC hM hS hl kk)
    | 11, _ => exact lv_tableIn (off := 564) (tgt := 597) hx hb dL_law_33 (by decide) (by decide) rfl (by decide) (cs_11 XC XM hcm hmc hX hbl hbA hf hi hL hR hC hM hS hl kk)
    | 12, _ => exact lv_tableIn (off := 597) (tgt := 630) hx hb dL_law_33 (by decide) (by decide) rfl (by decide) (cs_12 XC XM hcm hmc hX hbl hbA hf hi hL hR hC hM hS hl kk)
    | 13, _ => exact lv_tableIn (off := 620) (tgt := 653) hx hb dL_law_33 (by decide) (by decide) rfl (by decide) (cs_13 XC XM hcm hmc hX hbl hbA hf hi hL hR hC hM hS hl kk)
    | 14, _ => exact lv_tableIn (off := 653) (tgt := 686) hx hb dL_law_33 (by decide) (by decide) rfl (by decide) (cs_14 XC XM hcm hmc hX hbl hbA hf hi hL hR hC hM hS hl kk)
    | 15, _ => exact lv_tableIn (off := 666) (tgt := 699) hx hb dL_law_33 (by decide) (by decide) rfl (by decide) (cs_15 XC XM hcm hmc hX hbl hbA hf hi hL hR hC hM hS hl kk)
    | 16, _ => exact lv_tableIn (off := 689) (tgt := 722) hx hb dL_law_33 (by decide) (by decide) rfl (by decide) (cs_16 XC XM hcm hmc hX hbl hbA hf hi hL hR hC hM hS hl kk)
    | 17, _ => exact lv_tableIn (off := 712) (tgt := 745) hx hb dL_law_33 (by decide) (by decide) rfl (by decide) (cs_17 XC XM hcm hmc hX hbl hbA hf hi hL hR hC hM hS hl kk)
    | 18, _ => exact lv_tableIn (off := 735) (tgt := 768) hx hb dL_law_33 (by decide) (by decide) rfl (by decide) (cs_18 XC XM hcm hmc hX hbl hbA hf hi hL hR hC hM hS hl kk)
    | 19, _ => exact lv_tableIn (off := 758) (tgt := 791) hx hb dL_law_33 (by decide) (by decide) rfl (by decide) (cs_19 XC XM hcm hmc hX hbl hbA hf hi hL hR hC hM hS hl kk)
    | 20, _ => exact lv_tableIn (off := 781) (tgt := 814) hx hb dL_law_33 (by decide) (by decide) rfl (by decide) (cs_20 XC XM hcm hmc hX hbl hbA hf hi hL hR hC hM hS hl kk)
    | 21, _ => exact lv_tableIn (off := 804) (tgt := 837) hx hb dL_law_33 (by decide) (by decide) rfl (by decide) (cs_21 XC XM hcm hmc hX hbl hbA hf hi hL hR hC hM hS hl kk)
    | 22, _ => exact lv_tableIn (off := 837) (tgt := 870) hx hb dL_law_33 (by decide) (by decide) rfl (by decide) (cs_22 XC XM hcm hmc hX hbl hbA hf hi hL hR hC hM hS hl kk)
    | 23, _ => exact lv_tableIn (off := 870) (tgt := 903) hx hb dL_law_33 (by decide) (by decide) rfl (by decide) (cs_23 XC XM hcm hmc hX hbl hbA hf hi hL hR hC hM hS hl kk)
    | 24, _ => exact lv_tableIn (off := 903) (tgt := 936) hx hb dL_law_33 (by decide) (by decide) rfl (by decide) (cs_24 XC XM hcm hmc hX hbl hbA hf hi hL hR hC hM hS hl kk)
    | 25, _ => exact lv_tableIn (off := 936) (tgt := 969) hx hb dL_law_33 (by decide) (by decide) rfl (by decide) (cs_25 XC XM hcm hmc hX hbl hbA hf hi hL hR hC hM hS hl kk)
    | 26, _ => exact lv_tableIn (off := 949) (tgt := 982) hx hb dL_law_33 (by decide) (by decide) rfl (by decide) (cs_26 XC XM hcm hmc hX hbl hbA hf hi hL hR hC hM hS hl kk)
    | 27, _ => exact lv_tableIn (off := 982) (tgt := 1015) hx hb dL_law_33 (by decide) (by decide) rfl (by decide) (cs_27 XC XM hcm hmc hX hbl hbA hf hi hL hR hC hM hS hl kk)
    | 28, _ => exact lv_tableIn (off := 1015) (tgt := 1048) hx hb dL_law_33 (by decide) (by decide) rfl (by decide) (cs_28 XC XM hcm hmc hX hbl hbA hf hi hL hR hC hM hS hl kk)
    | 29, _ => exact lv_tableIn (off := 1048) (tgt := 1081) hx hb dL_law_33 (by decide) (by decide) rfl (by decide) (cs_29 XC XM hcm hmc hX hbl hbA hf hi hL hR hC hM hS hl kk)
    | 30, _ => exact lv_tableIn (off := 1071) (tgt := 1104) hx hb dL_law_33 (by decide) (by decide) rfl (by decide) (cs_30 XC XM hcm hmc hX hbl hbA hf hi hL hR hC hM hS hl kk)
    | 31, _ => exact lv_tableIn (off := 1094) (tgt := 1127) hx hb dL_law_33 (by decide) (by decide) rfl (by decide) (cs_31 XC XM hcm hmc hX hbl hbA hf hi hL hR hC hM hS hl kk)
    | 32, _ => exact lv_tableIn (off := 1147) (tgt := 1180) hx hb dL_law_33 (by decide) (by decide) rfl (by decide) (cs_32 XC XM hcm hmc hX hbl hbA hf hi hL hR hC hM hS hl kk)
    | 33, _ => exact lv_tableIn (off := 1180) (tgt := 1213) hx hb dL_law_33 (by decide) (by decide) rfl (by decide) (cs_33 XC XM hcm hmc hX hbl hbA hf hi hL hR hC hM hS hl kk)
    | 34, _ => exact lv_tableIn (off := 1213) (tgt := 1246) hx hb dL_law_33 (by decide) (by decide) rfl (by decide) (cs_34 XC XM hcm hmc hX hbl hbA hf hi hL hR hC hM hS hl kk)
    | 35, _ => exact lv_tableIn (off := 1246) (tgt := 1279) hx hb dL_law_33 (by decide) (by decide) rfl (by decide) (cs_35 XC XM hcm hmc hX hbl hbA hf hi hL hR hC hM hS hl kk)
    | 36, _ => exact lv_tableIn (off := 1299) (tgt := 1332) hx hb dL_law_33 (by decide) (by decide) rfl (by decide) (cs_36 XC XM hcm hmc hX hbl hbA hf hi hL hR hC hM hS hl kk)
    | 37, _ => exact lv_tableIn (off := 1332) (tgt := 1365) hx hb dL_law_33 (by decide) (by decide) rfl (by decide) (cs_37 XC XM hcm hmc hX hbl hbA hf hi hL hR hC hM hS hl kk)
    | 38, _ => exact lv_tableIn (off := 1345) (tgt := 1378) hx hb dL_law_33 (by decide) (by decide) rfl (by decide) (cs_38 XC XM hcm hmc hX hbl hbA hf hi hL hR hC hM hS hl kk)
    | 39, _ => exact lv_tableIn (off := 1359) (tgt := 1392) hx hb dL_law_33 (by decide) (by decide) rfl (by decide) (cs_39 XC XM hcm hmc hX hbl hbA hf hi hL hR hC hM hS hl kk)
    | 40, _ => exact lv_tableIn (off := 1373) (tgt := 1406) hx hb dL_law_33 (by decide) (by decide) rfl (by decide) (cs_40 XC XM hcm hmc hX hbl hbA hf hi hL hR hC hM hS hl kk)
    | 41, _ => exact lv_tableIn (off := 1396) (tgt := 1429) hx hb dL_law_33 (by decide) (by decide) rfl (by decide) (cs_41 XC XM hcm hmc hX hbl hbA hf hi hL hR hC hM hS hl kk)
    | 42, _ => exact lv_tableIn (off := 1409) (tgt := 1442) hx hb dL_law_33 (by decide) (by decide) rfl (by decide) (cs_42 XC XM hcm hmc hX hbl hbA hf hi hL hR hC hM hS hl kk)
    | 43, _ => exact lv_tableIn (off := 1432) (tgt := 1465) hx hb dL_law_33 (by decide) (by decide) rfl (by decide) (cs_43 XC XM hcm hmc hX hbl hbA hf hi hL hR hC hM hS hl kk)
    | k + 44, hk => exact absurd hk (by omega)
theorem z_gt {i L : Nat} (hi : i ≤ 1000) (hL : L ≤ 384) (h : ¬ (Int32.ofNat L - 6 : Int32) < nI i) : i + 6 ≤ L := by
  have h1 : (Int32.ofNat L - 6 : Int32).toInt = (L : Int) - 6 := by
    rw [Int32.toInt_sub, Int32.toInt_ofNat_of_lt (by omega)]
    show ((L : Int) - 6).bmod (2 ^ 32) = _
    exact Int.bmod_eq_of_le (by omega) (by omega)
  have h2 : (nI i).toInt = (i : Int) := Int32.toInt_ofNat_of_lt (by omega)
  have h3 := Int32.not_lt.mp h
  have h4 := Int32.le_iff_toInt_le.mp h3
  rw [h1, h2] at h4
  omega
theorem z_loop {p : Program} {l : Launch} {e : Env} {s : State} {m : MethodId} {below : List Frame} {meth : Method} {c : Code} {D : va_G} {c3 : C3} {ac am : Nat → Nat} {b L : Nat} {xs : Nat → Int32} {cells slots : Nat} (XC : Cx p s m #[Value.ref b] c code 4 RL wsL_law D c3 (encC c3 ac) gC (fun q : Nat => s.heap.size ≤ q)) (XM : Cx p s m #[Value.ref b] c code 4 RL wsL_law D c3 (encM c3 am) gM (fun q : Nat => s.heap.size ≤ q)) (hcm : ∀ v w, Apart (encC c3 ac v) (encM c3 am w)) (hmc : ∀ v w, Apart (encM c3 am v) (encC c3 ac w)) (hX : va_X b L xs s s.heap) (hbl : b < s.heap.size) (hcl : cells ≤ 600000) (hsl : slots ≤ 7302250) (hL : L ≤ 384) (hr : meth.sig.returnType = ret) (hlocks : meth.locks = false) :
    ∀ (n i : Nat) (H : Heap) (locs : List Loc) (ls : Array Slot) (wc wm : Mm), i ≤ L → L < n + i → Rel wc wm → va_P D vwCl (encC c3 ac wc) H → va_P D vwCl (encM c3 am wm) H → va_S (fun q : Nat => s.heap.size ≤ q) s.heap H locs → lv_has ls 4 [(0, .ref b), (1, .ref (ac 0)), (2, .ref (am 0)), (3, .int (nI i))] → W p l e room_1 s m #[Value.ref b] below meth c H locs cells slots (lw_Z below #[Value.ref b] s) (F0 m 18 ls []) := by
  have hx := XC.1
  have hb := XC.2.1
  have hbA : ¬ (fun q : Nat => s.heap.size ≤ q) b := Nat.not_le.mpr hbl
  intro n
  induction n with
  | zero => intro i H locs ls wc wm h1 h2; exact absurd h2 (by omega)
  | succ n ih =>
    intro i H locs ls wc wm hiL hn hR hC hM hS hl
    refine lv_iload_n hx hb dL_law_18 rfl (lv_at hl 3 rfl) ?_
    refine lv_aload_n hx hb dL_law_19 rfl (lv_at hl 0 rfl) ?_
    refine va_slen hx hb hX hbl hbA hS dL_law_20 ?_
    refine lv_bipush (v := 6) hx hb dL_law_21 (by decide) ?_
    refine lv_isub hx hb dL_law_23 ?_
    refine lv_icmp_gt (tgt := 1485) hx hb dL_law_24 (by decide) (fun _ => ?_) (fun h => ?_)
    · refine lv_iconst (v := 1) hx hb dL_law_1485 (by decide) ?_
      refine va_forget (fun q hq => hS.2.2 q hq) ?_
      refine W.widen (k := 600000) (n := 7302250) hcl hsl ?_
      exact lw_ret hx hb hr hlocks dL_law_1486
    · have hi : i + 6 ≤ L := z_gt (by omega) hL h
      refine z_call XC XM hcm hmc hX hbl hbA ⟨hcl, hsl⟩ hi hL hR hC hM hS hl (fun H1 locs1 wc1 wm1 hR1 hC1 hM1 hS1 => ?_)
      refine lv_iinc (v := nI (i + 6)) (lv' := [(3, .int (nI (i + 6))), (0, .ref b), (1, .ref (ac 0)), (2, .ref (am 0))]) hx hb dL_law_1479 hl (k := 3) rfl (nI_add i 6) (by decide) rfl (fun ls hl => ?_)
      refine lv_goto (tgt := 18) hx hb dL_law_1482 (by decide) ?_
      exact ih (i + 6) H1 locs1 ls wc1 wm1 hi (by omega) hR1 hC1 hM1 hS1 (lv_sub hl [1, 2, 3, 0] rfl)

/-! the law: its calls, one by one -/
set_option maxRecDepth 20000 in
theorem cs_22 {p : Program} {l : Launch} {e : Env} {s : State} {m : MethodId} {below : List Frame} {meth : Method} {c : Code} {H : Heap} {locs : List Loc} {Q : State → Prop} {D : va_G} {c3 : C3} {ac am : Nat → Nat} {A : Nat → Prop} {b L i : Nat} {xs : Nat → Int32} {ls : Array Slot} {wc wm : Mm} {cells slots : Nat} (XC : Cx p s m #[Value.ref b] c code 4 RL wsL_law D c3 (encC c3 ac) gC A) (XM : Cx p s m #[Value.ref b] c code 4 RL wsL_law D c3 (encM c3 am) gM A) (hcm : ∀ v w, Apart (encC c3 ac v) (encM c3 am w)) (hmc : ∀ v w, Apart (encM c3 am v) (encC c3 ac w)) (hX : va_X b L xs s s.heap) (hbl : b < s.heap.size) (hbA : ¬ A b) (hf : cells ≤ room_1.cells ∧ slots ≤ room_1.slots) (hi : i + 6 ≤ L) (hL : L ≤ 384) (hR : Rel wc wm) (hC : va_P D vwCl (encC c3 ac wc) H) (hM : va_P D vwCl (encM c3 am wm) H) (hS : va_S A s.heap H locs) (hl : lv_has ls 4 [(0, .ref b), (1, .ref (ac 0)), (2, .ref (am 0)), (3, .int (nI i))])
    (kk : ∀ (H1 : Heap) (locs1 : List Loc) (wc1 wm1 : Mm), Rel wc1 wm1 → va_P D vwCl (encC c3 ac wc1) H1 → va_P D vwCl (encM c3 am wm1) H1 → va_S A s.heap H1 locs1 → W p l e room_1 s m #[Value.ref b] below meth c H1 locs1 cells slots Q (F0 m 1479 ls [])) : W p l e room_1 s m #[Value.ref b] below meth c H locs cells slots Q (F0 m 870 ls []) := by
  have hx := XC.1
  have hb := XC.2.1
  have hts := XC.2.2.2.2.1
  obtain ⟨r, wc1, wm1, h7, h8, hR1⟩ := sim_settle hR (xs (i + 1)) (xs (i + 2))
  refine lv_aload_n hx hb dL_law_870 rfl (lv_at hl 1 rfl) ?_
  refine z_arg (k := 1) hx hb hX hbl hbA hS hl (j0 := 0) (j3 := 3) rfl rfl (by omega) hL dL_law_871 dL_law_872 dL_law_873 dL_law_874 dL_law_875 ?_
  refine z_arg (k := 2) hx hb hX hbl hbA hS hl (j0 := 0) (j3 := 3) rfl rfl (by omega) hL dL_law_876 dL_law_877 dL_law_878 dL_law_879 dL_law_880 ?_
  refine z_goi (w' := wc1) XC hS hM (hcm wc wm) (z_runV (As := [.int (xs (i + 1)), .int (xs (i + 2))]) (rest := []) XC gC_ok hC hS (ctX7_settle l D c3 ac wc _ (xs (i + 1)) (xs (i + 2)) _ _ h7) (cwV 2 hts gL_law_X7_settle rfl rfl rfl (by decide +kernel) ⟨by decide, by decide⟩) (gC0 c3 ac wc) rfl rfl rfl hl.1 rfl (Nat.le_of_ble_eq_true rfl) dL_law_881 hf) (fun H locs hC hM hS => ?_)
  refine lv_aload_n hx hb dL_law_884 rfl (lv_at hl 2 rfl) ?_
  refine z_arg (k := 1) hx hb hX hbl hbA hS hl (j0 := 0) (j3 := 3) rfl rfl (by omega) hL dL_law_885 dL_law_886 dL_law_887 dL_law_888 dL_law_889 ?_
  refine z_arg (k := 2) hx hb hX hbl hbA hS hl (j0 := 0) (j3 := 3) rfl rfl (by omega) hL dL_law_890 dL_law_891 dL_law_892 dL_law_893 dL_law_894 ?_
  refine z_goi (w' := wm1) XM hS hC (hmc wm wc1) (z_runV (As := [.int (xs (i + 1)), .int (xs (i + 2))]) (rest := [.int r]) XM gM_ok hM hS (ctX8_settle l D c3 am wm _ (xs (i + 1)) (xs (i + 2)) _ _ h8) (cwV 2 hts gL_law_X8_settle rfl rfl rfl (by decide +kernel) ⟨by decide, by decide⟩) (gM0 c3 am wm) rfl rfl rfl hl.1 rfl (Nat.le_of_ble_eq_true rfl) dL_law_895 hf) (fun H locs hM hC hS => ?_)
  refine lv_icmp_eq (tgt := 1479) hx hb dL_law_898 (by decide) (fun _ => ?_) (fun c_9 => absurd rfl c_9)
  exact kk _ _ wc1 wm1 hR1 hC hM hS
set_option maxRecDepth 20000 in
theorem cs_23 {p : Program} {l : Launch} {e : Env} {s : State} {m : MethodId} {below : List Frame} {meth : Method} {c : Code} {H : Heap} {locs : List Loc} {Q : State → Prop} {D : va_G} {c3 : C3} {ac am : Nat → Nat} {A : Nat → Prop} {b L i : Nat} {xs : Nat → Int32} {ls : Array Slot} {wc wm : Mm} {cells slots : Nat} (XC : Cx p s m #[Value.ref b] c code 4 RL wsL_law D c3 (encC c3 ac) gC A) (XM : Cx p s m #[Value.ref b] c code 4 RL wsL_law D c3 (encM c3 am) gM A) (hcm : ∀ v w, Apart (encC c3 ac v) (encM c3 am w)) (hmc : ∀ v w, Apart (encM c3 am v) (encC c3 ac w)) (hX : va_X b L xs s s.heap) (hbl : b < s.heap.size) (hbA : ¬ A b) (hf : cells ≤ room_1.cells ∧ slots ≤ room_1.slots) (hi : i + 6 ≤ L) (hL : L ≤ 384) (hR : Rel wc wm) (hC : va_P D vwCl (encC c3 ac wc) H) (hM : va_P D vwCl (encM c3 am wm) H) (hS : va_S A s.heap H locs) (hl : lv_has ls 4 [(0, .ref b), (1, .ref (ac 0)), (2, .ref (am 0)), (3, .int (nI i))])
    (kk : ∀ (H1 : Heap) (locs1 : List Loc) (wc1 wm1 : Mm), Rel wc1 wm1 → va_P D vwCl (encC c3 ac wc1) H1 → va_P D vwCl (encM c3 am wm1) H1 → va_S A s.heap H1 locs1 → W p l e room_1 s m #[Value.ref b] below meth c H1 locs1 cells slots Q (F0 m 1479 ls [])) : W p l e room_1 s m #[Value.ref b] below meth c H locs cells slots Q (F0 m 903 ls []) := by
  have hx := XC.1
  have hb := XC.2.1
  have hts := XC.2.2.2.2.1
  obtain ⟨r, wc1, wm1, h7, h8, hR1⟩ := sim_least hR (xs (i + 1)) (xs (i + 2))
  refine lv_aload_n hx hb dL_law_903 rfl (lv_at hl 1 rfl) ?_
  refine z_arg (k := 1) hx hb hX hbl hbA hS hl (j0 := 0) (j3 := 3) rfl rfl (by omega) hL dL_law_904 dL_law_905 dL_law_906 dL_law_907 dL_law_908 ?_
  refine z_arg (k := 2) hx hb hX hbl hbA hS hl (j0 := 0) (j3 := 3) rfl rfl (by omega) hL dL_law_909 dL_law_910 dL_law_911 dL_law_912 dL_law_913 ?_
  refine z_goi (w' := wc1) XC hS hM (hcm wc wm) (z_runV (As := [.int (xs (i + 1)), .int (xs (i + 2))]) (rest := []) XC gC_ok hC hS (ctX7_least l D c3 ac wc _ (xs (i + 1)) (xs (i + 2)) _ _ h7) (cwV 2 hts gL_law_X7_least rfl rfl rfl (by decide +kernel) ⟨by decide, by decide⟩) (gC0 c3 ac wc) rfl rfl rfl hl.1 rfl (Nat.le_of_ble_eq_true rfl) dL_law_914 hf) (fun H locs hC hM hS => ?_)
  refine lv_aload_n hx hb dL_law_917 rfl (lv_at hl 2 rfl) ?_
  refine z_arg (k := 1) hx hb hX hbl hbA hS hl (j0 := 0) (j3 := 3) rfl rfl (by omega) hL dL_law_918 dL_law_919 dL_law_920 dL_law_921 dL_law_922 ?_
  refine z_arg (k := 2) hx hb hX hbl hbA hS hl (j0 := 0) (j3 := 3) rfl rfl (by omega) hL dL_law_923 dL_law_924 dL_law_925 dL_law_926 dL_law_927 ?_
  refine z_goi (w' := wm1) XM hS hC (hmc wm wc1) (z_runV (As := [.int (xs (i + 1)), .int (xs (i + 2))]) (rest := [.int r]) XM gM_ok hM hS (ctX8_least l D c3 am wm _ (xs (i + 1)) (xs (i + 2)) _ _ h8) (cwV 2 hts gL_law_X8_least rfl rfl rfl (by decide +kernel) ⟨by decide, by decide⟩) (gM0 c3 am wm) rfl rfl rfl hl.1 rfl (Nat.le_of_ble_eq_true rfl) dL_law_928 hf) (fun H locs hM hC hS => ?_)
  refine lv_icmp_eq (tgt := 1479) hx hb dL_law_931 (by decide) (fun _ => ?_) (fun c_9 => absurd rfl c_9)
  exact kk _ _ wc1 wm1 hR1 hC hM hS
set_option maxRecDepth 20000 in
theorem cs_24 {p : Program} {l : Launch} {e : Env} {s : State} {m : MethodId} {below : List Frame} {meth : Method} {c : Code} {H : Heap} {locs : List Loc} {Q : State → Prop} {D : va_G} {c3 : C3} {ac am : Nat → Nat} {A : Nat → Prop} {b L i : Nat} {xs : Nat → Int32} {ls : Array Slot} {wc wm : Mm} {cells slots : Nat} (XC : Cx p s m #[Value.ref b] c code 4 RL wsL_law D c3 (encC c3 ac) gC A) (XM : Cx p s m #[Value.ref b] c code 4 RL wsL_law D c3 (encM c3 am) gM A) (hcm : ∀ v w, Apart (encC c3 ac v) (encM c3 am w)) (hmc : ∀ v w, Apart (encM c3 am v) (encC c3 ac w)) (hX : va_X b L xs s s.heap) (hbl : b < s.heap.size) (hbA : ¬ A b) (hf : cells ≤ room_1.cells ∧ slots ≤ room_1.slots) (hi : i + 6 ≤ L) (hL : L ≤ 384) (hR : Rel wc wm) (hC : va_P D vwCl (encC c3 ac wc) H) (hM : va_P D vwCl (encM c3 am wm) H) (hS : va_S A s.heap H locs) (hl : lv_has ls 4 [(0, .ref b), (1, .ref (ac 0)), (2, .ref (am 0)), (3, .int (nI i))])
    (kk : ∀ (H1 : Heap) (locs1 : List Loc) (wc1 wm1 : Mm), Rel wc1 wm1 → va_P D vwCl (encC c3 ac wc1) H1 → va_P D vwCl (encM c3 am wm1) H1 → va_S A s.heap H1 locs1 → W p l e room_1 s m #[Value.ref b] below meth c H1 locs1 cells slots Q (F0 m 1479 ls [])) : W p l e room_1 s m #[Value.ref b] below meth c H locs cells slots Q (F0 m 936 ls []) := by
  have hx := XC.1
  have hb := XC.2.1
  have hts := XC.2.2.2.2.1
  obtain ⟨r, wc1, wm1, h7, h8, hR1⟩ := sim_rows hR (xs (i + 1)) (xs (i + 2))
  refine lv_aload_n hx hb dL_law_936 rfl (lv_at hl 1 rfl) ?_
  refine z_arg (k := 1) hx hb hX hbl hbA hS hl (j0 := 0) (j3 := 3) rfl rfl (by omega) hL dL_law_937 dL_law_938 dL_law_939 dL_law_940 dL_law_941 ?_
  refine z_arg (k := 2) hx hb hX hbl hbA hS hl (j0 := 0) (j3 := 3) rfl rfl (by omega) hL dL_law_942 dL_law_943 dL_law_944 dL_law_945 dL_law_946 ?_
  refine z_goi (w' := wc1) XC hS hM (hcm wc wm) (z_runV (As := [.int (xs (i + 1)), .int (xs (i + 2))]) (rest := []) XC gC_ok hC hS (ctX7_rows l D c3 ac wc _ (xs (i + 1)) (xs (i + 2)) _ _ h7) (cwV 2 hts gL_law_X7_rows rfl rfl rfl (by decide +kernel) ⟨by decide, by decide⟩) (gC0 c3 ac wc) rfl rfl rfl hl.1 rfl (Nat.le_of_ble_eq_true rfl) dL_law_947 hf) (fun H locs hC hM hS => ?_)
  refine lv_aload_n hx hb dL_law_950 rfl (lv_at hl 2 rfl) ?_
  refine z_arg (k := 1) hx hb hX hbl hbA hS hl (j0 := 0) (j3 := 3) rfl rfl (by omega) hL dL_law_951 dL_law_952 dL_law_953 dL_law_954 dL_law_955 ?_
  refine z_arg (k := 2) hx hb hX hbl hbA hS hl (j0 := 0) (j3 := 3) rfl rfl (by omega) hL dL_law_956 dL_law_957 dL_law_958 dL_law_959 dL_law_960 ?_
  refine z_goi (w' := wm1) XM hS hC (hmc wm wc1) (z_runV (As := [.int (xs (i + 1)), .int (xs (i + 2))]) (rest := [.int r]) XM gM_ok hM hS (ctX8_rows l D c3 am wm _ (xs (i + 1)) (xs (i + 2)) _ _ h8) (cwV 2 hts gL_law_X8_rows rfl rfl rfl (by decide +kernel) ⟨by decide, by decide⟩) (gM0 c3 am wm) rfl rfl rfl hl.1 rfl (Nat.le_of_ble_eq_true rfl) dL_law_961 hf) (fun H locs hM hC hS => ?_)
  refine lv_icmp_eq (tgt := 1479) hx hb dL_law_964 (by decide) (fun _ => ?_) (fun c_9 => absurd rfl c_9)
  exact kk _ _ wc1 wm1 hR1 hC hM hS
set_option maxRecDepth 20000 in
theorem cs_25 {p : Program} {l : Launch} {e : Env} {s : State} {m : MethodId} {below : List Frame} {meth : Method} {c : Code} {H : Heap} {locs : List Loc} {Q : State → Prop} {D : va_G} {c3 : C3} {ac am : Nat → Nat} {A : Nat → Prop} {b L i : Nat} {xs : Nat → Int32} {ls : Array Slot} {wc wm : Mm} {cells slots : Nat} (XC : Cx p s m #[Value.ref b] c code 4 RL wsL_law D c3 (encC c3 ac) gC A) (XM : Cx p s m #[Value.ref b] c code 4 RL wsL_law D c3 (encM c3 am) gM A) (hcm : ∀ v w, Apart (encC c3 ac v) (encM c3 am w)) (hmc : ∀ v w, Apart (encM c3 am v) (encC c3 ac w)) (hX : va_X b L xs s s.heap) (hbl : b < s.heap.size) (hbA : ¬ A b) (hf : cells ≤ room_1.cells ∧ slots ≤ room_1.slots) (hi : i + 6 ≤ L) (hL : L ≤ 384) (hR : Rel wc wm) (hC : va_P D vwCl (encC c3 ac wc) H) (hM : va_P D vwCl (encM c3 am wm) H) (hS : va_S A s.heap H locs) (hl : lv_has ls 4 [(0, .ref b), (1, .ref (ac 0)), (2, .ref (am 0)), (3, .int (nI i))])
    (kk : ∀ (H1 : Heap) (locs1 : List Loc) (wc1 wm1 : Mm), Rel wc1 wm1 → va_P D vwCl (encC c3 ac wc1) H1 → va_P D vwCl (encM c3 am wm1) H1 → va_S A s.heap H1 locs1 → W p l e room_1 s m #[Value.ref b] below meth c H1 locs1 cells slots Q (F0 m 1479 ls [])) : W p l e room_1 s m #[Value.ref b] below meth c H locs cells slots Q (F0 m 969 ls []) := by
  have hx := XC.1
  have hb := XC.2.1
  have hts := XC.2.2.2.2.1
  obtain ⟨r, h7, h8⟩ := sim_stuck hR
  refine lv_aload_n hx hb dL_law_969 rfl (lv_at hl 1 rfl) ?_
  refine z_goi (w' := wc) XC hS hM (hcm wc wm) (z_runV (As := []) (rest := []) XC gC_ok hC hS (ctX7_stuck l D c3 ac wc _ _ h7) (cwV 0 hts gL_law_X7_stuck rfl rfl rfl (by decide +kernel) ⟨by decide, by decide⟩) (gC0 c3 ac wc) rfl rfl rfl hl.1 rfl (Nat.le_of_ble_eq_true rfl) dL_law_970 hf) (fun H locs hC hM hS => ?_)
  refine lv_aload_n hx hb dL_law_973 rfl (lv_at hl 2 rfl) ?_
  refine z_goi (w' := wm) XM hS hC (hmc wm wc) (z_runV (As := []) (rest := [.int r]) XM gM_ok hM hS (ctX8_stuck l D c3 am wm _ _ h8) (cwV 0 hts gL_law_X8_stuck rfl rfl rfl (by decide +kernel) ⟨by decide, by decide⟩) (gM0 c3 am wm) rfl rfl rfl hl.1 rfl (Nat.le_of_ble_eq_true rfl) dL_law_974 hf) (fun H locs hM hC hS => ?_)
  refine lv_icmp_eq (tgt := 1479) hx hb dL_law_977 (by decide) (fun _ => ?_) (fun c_9 => absurd rfl c_9)
  exact kk _ _ wc wm hR hC hM hS
set_option maxRecDepth 20000 in
theorem cs_26 {p : Program} {l : Launch} {e : Env} {s : State} {m : MethodId} {below : List Frame} {meth : Method} {c : Code} {H : Heap} {locs : List Loc} {Q : State → Prop} {D : va_G} {c3 : C3} {ac am : Nat → Nat} {A : Nat → Prop} {b L i : Nat} {xs : Nat → Int32} {ls : Array Slot} {wc wm : Mm} {cells slots : Nat} (XC : Cx p s m #[Value.ref b] c code 4 RL wsL_law D c3 (encC c3 ac) gC A) (XM : Cx p s m #[Value.ref b] c code 4 RL wsL_law D c3 (encM c3 am) gM A) (hcm : ∀ v w, Apart (encC c3 ac v) (encM c3 am w)) (hmc : ∀ v w, Apart (encM c3 am v) (encC c3 ac w)) (hX : va_X b L xs s s.heap) (hbl : b < s.heap.size) (hbA : ¬ A b) (hf : cells ≤ room_1.cells ∧ slots ≤ room_1.slots) (hi : i + 6 ≤ L) (hL : L ≤ 384) (hR : Rel wc wm) (hC : va_P D vwCl (encC c3 ac wc) H) (hM : va_P D vwCl (encM c3 am wm) H) (hS : va_S A s.heap H locs) (hl : lv_has ls 4 [(0, .ref b), (1, .ref (ac 0)), (2, .ref (am 0)), (3, .int (nI i))])
    (kk : ∀ (H1 : Heap) (locs1 : List Loc) (wc1 wm1 : Mm), Rel wc1 wm1 → va_P D vwCl (encC c3 ac wc1) H1 → va_P D vwCl (encM c3 am wm1) H1 → va_S A s.heap H1 locs1 → W p l e room_1 s m #[Value.ref b] below meth c H1 locs1 cells slots Q (F0 m 1479 ls [])) : W p l e room_1 s m #[Value.ref b] below meth c H locs cells slots Q (F0 m 982 ls []) := by
  have hx := XC.1
  have hb := XC.2.1
  have hts := XC.2.2.2.2.1
  obtain ⟨r, wm1, h7, h8, hR1⟩ := sim_way hR (xs (i + 1)) (xs (i + 2))
  refine lv_aload_n hx hb dL_law_982 rfl (lv_at hl 1 rfl) ?_
  refine z_arg (k := 1) hx hb hX hbl hbA hS hl (j0 := 0) (j3 := 3) rfl rfl (by omega) hL dL_law_983 dL_law_984 dL_law_985 dL_law_986 dL_law_987 ?_
  refine z_arg (k := 2) hx hb hX hbl hbA hS hl (j0 := 0) (j3 := 3) rfl rfl (by omega) hL dL_law_988 dL_law_989 dL_law_990 dL_law_991 dL_law_992 ?_
  refine z_goi (w' := wc) XC hS hM (hcm wc wm) (z_runV (As := [.int (xs (i + 1)), .int (xs (i + 2))]) (rest := []) XC gC_ok hC hS (ctX7_way l D c3 ac wc _ (xs (i + 1)) (xs (i + 2)) _ h7) (cwV 2 hts gL_law_X7_way rfl rfl rfl (by decide +kernel) ⟨by decide, by decide⟩) (gC0 c3 ac wc) rfl rfl rfl hl.1 rfl (Nat.le_of_ble_eq_true rfl) dL_law_993 hf) (fun H locs hC hM hS => ?_)
  refine lv_aload_n hx hb dL_law_996 rfl (lv_at hl 2 rfl) ?_
  refine z_arg (k := 1) hx hb hX hbl hbA hS hl (j0 := 0) (j3 := 3) rfl rfl (by omega) hL dL_law_997 dL_law_998 dL_law_999 dL_law_1000 dL_law_1001 ?_
  refine z_arg (k := 2) hx hb hX hbl hbA hS hl (j0 := 0) (j3 := 3) rfl rfl (by omega) hL dL_law_1002 dL_law_1003 dL_law_1004 dL_law_1005 dL_law_1006 ?_
  refine z_goi (w' := wm1) XM hS hC (hmc wm wc) (z_runV (As := [.int (xs (i + 1)), .int (xs (i + 2))]) (rest := [.int r]) XM gM_ok hM hS (ctX8_way l D c3 am wm _ (xs (i + 1)) (xs (i + 2)) _ _ h8) (cwV 2 hts gL_law_X8_way rfl rfl rfl (by decide +kernel) ⟨by decide, by decide⟩) (gM0 c3 am wm) rfl rfl rfl hl.1 rfl (Nat.le_of_ble_eq_true rfl) dL_law_1007 hf) (fun H locs hM hC hS => ?_)
  refine lv_icmp_eq (tgt := 1479) hx hb dL_law_1010 (by decide) (fun _ => ?_) (fun c_9 => absurd rfl c_9)
  exact kk _ _ wc wm1 hR1 hC hM hS
set_option maxRecDepth 20000 in
theorem cs_27 {p : Program} {l : Launch} {e : Env} {s : State} {m : MethodId} {below : List Frame} {meth : Method} {c : Code} {H : Heap} {locs : List Loc} {Q : State → Prop} {D : va_G} {c3 : C3} {ac am : Nat → Nat} {A : Nat → Prop} {b L i : Nat} {xs : Nat → Int32} {ls : Array Slot} {wc wm : Mm} {cells slots : Nat} (XC : Cx p s m #[Value.ref b] c code 4 RL wsL_law D c3 (encC c3 ac) gC A) (XM : Cx p s m #[Value.ref b] c code 4 RL wsL_law D c3 (encM c3 am) gM A) (hcm : ∀ v w, Apart (encC c3 ac v) (encM c3 am w)) (hmc : ∀ v w, Apart (encM c3 am v) (encC c3 ac w)) (hX : va_X b L xs s s.heap) (hbl : b < s.heap.size) (hbA : ¬ A b) (hf : cells ≤ room_1.cells ∧ slots ≤ room_1.slots) (hi : i + 6 ≤ L) (hL : L ≤ 384) (hR : Rel wc wm) (hC : va_P D vwCl (encC c3 ac wc) H) (hM : va_P D vwCl (encM c3 am wm) H) (hS : va_S A s.heap H locs) (hl : lv_has ls 4 [(0, .ref b), (1, .ref (ac 0)), (2, .ref (am 0)), (3, .int (nI i))])
    (kk : ∀ (H1 : Heap) (locs1 : List Loc) (wc1 wm1 : Mm), Rel wc1 wm1 → va_P D vwCl (encC c3 ac wc1) H1 → va_P D vwCl (encM c3 am wm1) H1 → va_S A s.heap H1 locs1 → W p l e room_1 s m #[Value.ref b] below meth c H1 locs1 cells slots Q (F0 m 1479 ls [])) : W p l e room_1 s m #[Value.ref b] below meth c H locs cells slots Q (F0 m 1015 ls []) := by
  have hx := XC.1
  have hb := XC.2.1
  have hts := XC.2.2.2.2.1
  obtain ⟨r, wm1, h7, h8, hR1⟩ := sim_cuts hR (xs (i + 1)) (xs (i + 2))
  refine lv_aload_n hx hb dL_law_1015 rfl (lv_at hl 1 rfl) ?_
  refine z_arg (k := 1) hx hb hX hbl hbA hS hl (j0 := 0) (j3 := 3) rfl rfl (by omega) hL dL_law_1016 dL_law_1017 dL_law_1018 dL_law_1019 dL_law_1020 ?_
  refine z_arg (k := 2) hx hb hX hbl hbA hS hl (j0 := 0) (j3 := 3) rfl rfl (by omega) hL dL_law_1021 dL_law_1022 dL_law_1023 dL_law_1024 dL_law_1025 ?_
  refine z_goi (w' := wc) XC hS hM (hcm wc wm) (z_runV (As := [.int (xs (i + 1)), .int (xs (i + 2))]) (rest := []) XC gC_ok hC hS (ctX7_cuts l D c3 ac wc _ (xs (i + 1)) (xs (i + 2)) _ h7) (cwV 2 hts gL_law_X7_cuts rfl rfl rfl (by decide +kernel) ⟨by decide, by decide⟩) (gC0 c3 ac wc) rfl rfl rfl hl.1 rfl (Nat.le_of_ble_eq_true rfl) dL_law_1026 hf) (fun H locs hC hM hS => ?_)
  refine lv_aload_n hx hb dL_law_1029 rfl (lv_at hl 2 rfl) ?_
  refine z_arg (k := 1) hx hb hX hbl hbA hS hl (j0 := 0) (j3 := 3) rfl rfl (by omega) hL dL_law_1030 dL_law_1031 dL_law_1032 dL_law_1033 dL_law_1034 ?_
  refine z_arg (k := 2) hx hb hX hbl hbA hS hl (j0 := 0) (j3 := 3) rfl rfl (by omega) hL dL_law_1035 dL_law_1036 dL_law_1037 dL_law_1038 dL_law_1039 ?_
  refine z_goi (w' := wm1) XM hS hC (hmc wm wc) (z_runV (As := [.int (xs (i + 1)), .int (xs (i + 2))]) (rest := [.int r]) XM gM_ok hM hS (ctX8_cuts l D c3 am wm _ (xs (i + 1)) (xs (i + 2)) _ _ h8) (cwV 2 hts gL_law_X8_cuts rfl rfl rfl (by decide +kernel) ⟨by decide, by decide⟩) (gM0 c3 am wm) rfl rfl rfl hl.1 rfl (Nat.le_of_ble_eq_true rfl) dL_law_1040 hf) (fun H locs hM hC hS => ?_)
  refine lv_icmp_eq (tgt := 1479) hx hb dL_law_1043 (by decide) (fun _ => ?_) (fun c_9 => absurd rfl c_9)
  exact kk _ _ wc wm1 hR1 hC hM hS
set_option maxRecDepth 20000 in
theorem cs_28 {p : Program} {l : Launch} {e : Env} {s : State} {m : MethodId} {below : List Frame} {meth : Method} {c : Code} {H : Heap} {locs : List Loc} {Q : State → Prop} {D : va_G} {c3 : C3} {ac am : Nat → Nat} {A : Nat → Prop} {b L i : Nat} {xs : Nat → Int32} {ls : Array Slot} {wc wm : Mm} {cells slots : Nat} (XC : Cx p s m #[Value.ref b] c code 4 RL wsL_law D c3 (encC c3 ac) gC A) (XM : Cx p s m #[Value.ref b] c code 4 RL wsL_law D c3 (encM c3 am) gM A) (hcm : ∀ v w, Apart (encC c3 ac v) (encM c3 am w)) (hmc : ∀ v w, Apart (encM c3 am v) (encC c3 ac w)) (hX : va_X b L xs s s.heap) (hbl : b < s.heap.size) (hbA : ¬ A b) (hf : cells ≤ room_1.cells ∧ slots ≤ room_1.slots) (hi : i + 6 ≤ L) (hL : L ≤ 384) (hR : Rel wc wm) (hC : va_P D vwCl (encC c3 ac wc) H) (hM : va_P D vwCl (encM c3 am wm) H) (hS : va_S A s.heap H locs) (hl : lv_has ls 4 [(0, .ref b), (1, .ref (ac 0)), (2, .ref (am 0)), (3, .int (nI i))])
    (kk : ∀ (H1 : Heap) (locs1 : List Loc) (wc1 wm1 : Mm), Rel wc1 wm1 → va_P D vwCl (encC c3 ac wc1) H1 → va_P D vwCl (encM c3 am wm1) H1 → va_S A s.heap H1 locs1 → W p l e room_1 s m #[Value.ref b] below meth c H1 locs1 cells slots Q (F0 m 1479 ls [])) : W p l e room_1 s m #[Value.ref b] below meth c H locs cells slots Q (F0 m 1048 ls []) := by
  have hx := XC.1
  have hb := XC.2.1
  have hts := XC.2.2.2.2.1
  obtain ⟨r, wm1, h7, h8, hR1⟩ := sim_round hR (xs (i + 1)) (xs (i + 2))
  refine lv_aload_n hx hb dL_law_1048 rfl (lv_at hl 1 rfl) ?_
  refine z_arg (k := 1) hx hb hX hbl hbA hS hl (j0 := 0) (j3 := 3) rfl rfl (by omega) hL dL_law_1049 dL_law_1050 dL_law_1051 dL_law_1052 dL_law_1053 ?_
  refine z_arg (k := 2) hx hb hX hbl hbA hS hl (j0 := 0) (j3 := 3) rfl rfl (by omega) hL dL_law_1054 dL_law_1055 dL_law_1056 dL_law_1057 dL_law_1058 ?_
  refine z_goi (w' := wc) XC hS hM (hcm wc wm) (z_runV (As := [.int (xs (i + 1)), .int (xs (i + 2))]) (rest := []) XC gC_ok hC hS (ctX7_round l D c3 ac wc _ (xs (i + 1)) (xs (i + 2)) _ h7) (cwV 2 hts gL_law_X7_round rfl rfl rfl (by decide +kernel) ⟨by decide, by decide⟩) (gC0 c3 ac wc) rfl rfl rfl hl.1 rfl (Nat.le_of_ble_eq_true rfl) dL_law_1059 hf) (fun H locs hC hM hS => ?_)
  refine lv_aload_n hx hb dL_law_1062 rfl (lv_at hl 2 rfl) ?_
  refine z_arg (k := 1) hx hb hX hbl hbA hS hl (j0 := 0) (j3 := 3) rfl rfl (by omega) hL dL_law_1063 dL_law_1064 dL_law_1065 dL_law_1066 dL_law_1067 ?_
  refine z_arg (k := 2) hx hb hX hbl hbA hS hl (j0 := 0) (j3 := 3) rfl rfl (by omega) hL dL_law_1068 dL_law_1069 dL_law_1070 dL_law_1071 dL_law_1072 ?_
  refine z_goi (w' := wm1) XM hS hC (hmc wm wc) (z_runV (As := [.int (xs (i + 1)), .int (xs (i + 2))]) (rest := [.int r]) XM gM_ok hM hS (ctX8_round l D c3 am wm _ (xs (i + 1)) (xs (i + 2)) _ _ h8) (cwV 2 hts gL_law_X8_round rfl rfl rfl (by decide +kernel) ⟨by decide, by decide⟩) (gM0 c3 am wm) rfl rfl rfl hl.1 rfl (Nat.le_of_ble_eq_true rfl) dL_law_1073 hf) (fun H locs hM hC hS => ?_)
  refine lv_icmp_eq (tgt := 1479) hx hb dL_law_1076 (by decide) (fun _ => ?_) (fun c_9 => absurd rfl c_9)
  exact kk _ _ wc wm1 hR1 hC hM hS
set_option maxRecDepth 20000 in
theorem cs_29 {p : Program} {l : Launch} {e : Env} {s : State} {m : MethodId} {below : List Frame} {meth : Method} {c : Code} {H : Heap} {locs : List Loc} {Q : State → Prop} {D : va_G} {c3 : C3} {ac am : Nat → Nat} {A : Nat → Prop} {b L i : Nat} {xs : Nat → Int32} {ls : Array Slot} {wc wm : Mm} {cells slots : Nat} (XC : Cx p s m #[Value.ref b] c code 4 RL wsL_law D c3 (encC c3 ac) gC A) (XM : Cx p s m #[Value.ref b] c code 4 RL wsL_law D c3 (encM c3 am) gM A) (hcm : ∀ v w, Apart (encC c3 ac v) (encM c3 am w)) (hmc : ∀ v w, Apart (encM c3 am v) (encC c3 ac w)) (hX : va_X b L xs s s.heap) (hbl : b < s.heap.size) (hbA : ¬ A b) (hf : cells ≤ room_1.cells ∧ slots ≤ room_1.slots) (hi : i + 6 ≤ L) (hL : L ≤ 384) (hR : Rel wc wm) (hC : va_P D vwCl (encC c3 ac wc) H) (hM : va_P D vwCl (encM c3 am wm) H) (hS : va_S A s.heap H locs) (hl : lv_has ls 4 [(0, .ref b), (1, .ref (ac 0)), (2, .ref (am 0)), (3, .int (nI i))])
    (kk : ∀ (H1 : Heap) (locs1 : List Loc) (wc1 wm1 : Mm), Rel wc1 wm1 → va_P D vwCl (encC c3 ac wc1) H1 → va_P D vwCl (encM c3 am wm1) H1 → va_S A s.heap H1 locs1 → W p l e room_1 s m #[Value.ref b] below meth c H1 locs1 cells slots Q (F0 m 1479 ls [])) : W p l e room_1 s m #[Value.ref b] below meth c H locs cells slots Q (F0 m 1081 ls []) := by
  have hx := XC.1
  have hb := XC.2.1
  have hts := XC.2.2.2.2.1
  obtain ⟨r, wc1, wm1, h7, h8, hR1⟩ := sim_never hR (xs (i + 1))
  refine lv_aload_n hx hb dL_law_1081 rfl (lv_at hl 1 rfl) ?_
  refine z_arg (k := 1) hx hb hX hbl hbA hS hl (j0 := 0) (j3 := 3) rfl rfl (by omega) hL dL_law_1082 dL_law_1083 dL_law_1084 dL_law_1085 dL_law_1086 ?_
  refine z_goi (w' := wc1) XC hS hM (hcm wc wm) (z_runV (As := [.int (xs (i + 1))]) (rest := []) XC gC_ok hC hS (ctX7_never l D c3 ac wc _ (xs (i + 1)) _ _ h7) (cwV 1 hts gL_law_X7_never rfl rfl rfl (by decide +kernel) ⟨by decide, by decide⟩) (gC0 c3 ac wc) rfl rfl rfl hl.1 rfl (Nat.le_of_ble_eq_true rfl) dL_law_1087 hf) (fun H locs hC hM hS => ?_)
  refine lv_aload_n hx hb dL_law_1090 rfl (lv_at hl 2 rfl) ?_
  refine z_arg (k := 1) hx hb hX hbl hbA hS hl (j0 := 0) (j3 := 3) rfl rfl (by omega) hL dL_law_1091 dL_law_1092 dL_law_1093 dL_law_1094 dL_law_1095 ?_
  refine z_goi (w' := wm1) XM hS hC (hmc wm wc1) (z_runV (As := [.int (xs (i + 1))]) (rest := [.int r]) XM gM_ok hM hS (ctX8_never l D c3 am wm _ (xs (i + 1)) _ _ h8) (cwV 1 hts gL_law_X8_never rfl rfl rfl (by decide +kernel) ⟨by decide, by decide⟩) (gM0 c3 am wm) rfl rfl rfl hl.1 rfl (Nat.le_of_ble_eq_true rfl) dL_law_1096 hf) (fun H locs hM hC hS => ?_)
  refine lv_icmp_eq (tgt := 1479) hx hb dL_law_1099 (by decide) (fun _ => ?_) (fun c_9 => absurd rfl c_9)
  exact kk _ _ wc1 wm1 hR1 hC hM hS
set_option maxRecDepth 20000 in
theorem cs_30 {p : Program} {l : Launch} {e : Env} {s : State} {m : MethodId} {below : List Frame} {meth : Method} {c : Code} {H : Heap} {locs : List Loc} {Q : State → Prop} {D : va_G} {c3 : C3} {ac am : Nat → Nat} {A : Nat → Prop} {b L i : Nat} {xs : Nat → Int32} {ls : Array Slot} {wc wm : Mm} {cells slots : Nat} (XC : Cx p s m #[Value.ref b] c code 4 RL wsL_law D c3 (encC c3 ac) gC A) (XM : Cx p s m #[Value.ref b] c code 4 RL wsL_law D c3 (encM c3 am) gM A) (hcm : ∀ v w, Apart (encC c3 ac v) (encM c3 am w)) (hmc : ∀ v w, Apart (encM c3 am v) (encC c3 ac w)) (hX : va_X b L xs s s.heap) (hbl : b < s.heap.size) (hbA : ¬ A b) (hf : cells ≤ room_1.cells ∧ slots ≤ room_1.slots) (hi : i + 6 ≤ L) (hL : L ≤ 384) (hR : Rel wc wm) (hC : va_P D vwCl (encC c3 ac wc) H) (hM : va_P D vwCl (encM c3 am wm) H) (hS : va_S A s.heap H locs) (hl : lv_has ls 4 [(0, .ref b), (1, .ref (ac 0)), (2, .ref (am 0)), (3, .int (nI i))])
    (kk : ∀ (H1 : Heap) (locs1 : List Loc) (wc1 wm1 : Mm), Rel wc1 wm1 → va_P D vwCl (encC c3 ac wc1) H1 → va_P D vwCl (encM c3 am wm1) H1 → va_S A s.heap H1 locs1 → W p l e room_1 s m #[Value.ref b] below meth c H1 locs1 cells slots Q (F0 m 1479 ls [])) : W p l e room_1 s m #[Value.ref b] below meth c H locs cells slots Q (F0 m 1104 ls []) := by
  have hx := XC.1
  have hb := XC.2.1
  have hts := XC.2.2.2.2.1
  obtain ⟨r, wc1, wm1, h7, h8, hR1⟩ := sim_next hR (xs (i + 1))
  refine lv_aload_n hx hb dL_law_1104 rfl (lv_at hl 1 rfl) ?_
  refine z_arg (k := 1) hx hb hX hbl hbA hS hl (j0 := 0) (j3 := 3) rfl rfl (by omega) hL dL_law_1105 dL_law_1106 dL_law_1107 dL_law_1108 dL_law_1109 ?_
  refine z_goi (w' := wc1) XC hS hM (hcm wc wm) (z_runV (As := [.int (xs (i + 1))]) (rest := []) XC gC_ok hC hS (ctX7_next l D c3 ac wc _ (xs (i + 1)) _ _ h7) (cwV 1 hts gL_law_X7_next rfl rfl rfl (by decide +kernel) ⟨by decide, by decide⟩) (gC0 c3 ac wc) rfl rfl rfl hl.1 rfl (Nat.le_of_ble_eq_true rfl) dL_law_1110 hf) (fun H locs hC hM hS => ?_)
  refine lv_aload_n hx hb dL_law_1113 rfl (lv_at hl 2 rfl) ?_
  refine z_arg (k := 1) hx hb hX hbl hbA hS hl (j0 := 0) (j3 := 3) rfl rfl (by omega) hL dL_law_1114 dL_law_1115 dL_law_1116 dL_law_1117 dL_law_1118 ?_
  refine z_goi (w' := wm1) XM hS hC (hmc wm wc1) (z_runV (As := [.int (xs (i + 1))]) (rest := [.int r]) XM gM_ok hM hS (ctX8_next l D c3 am wm _ (xs (i + 1)) _ _ h8) (cwV 1 hts gL_law_X8_next rfl rfl rfl (by decide +kernel) ⟨by decide, by decide⟩) (gM0 c3 am wm) rfl rfl rfl hl.1 rfl (Nat.le_of_ble_eq_true rfl) dL_law_1119 hf) (fun H locs hM hC hS => ?_)
  refine lv_icmp_eq (tgt := 1479) hx hb dL_law_1122 (by decide) (fun _ => ?_) (fun c_9 => absurd rfl c_9)
  exact kk _ _ wc1 wm1 hR1 hC hM hS
set_option maxRecDepth 20000 in
theorem cs_31 {p : Program} {l : Launch} {e : Env} {s : State} {m : MethodId} {below : List Frame} {meth : Method} {c : Code} {H : Heap} {locs : List Loc} {Q : State → Prop} {D : va_G} {c3 : C3} {ac am : Nat → Nat} {A : Nat → Prop} {b L i : Nat} {xs : Nat → Int32} {ls : Array Slot} {wc wm : Mm} {cells slots : Nat} (XC : Cx p s m #[Value.ref b] c code 4 RL wsL_law D c3 (encC c3 ac) gC A) (XM : Cx p s m #[Value.ref b] c code 4 RL wsL_law D c3 (encM c3 am) gM A) (hcm : ∀ v w, Apart (encC c3 ac v) (encM c3 am w)) (hmc : ∀ v w, Apart (encM c3 am v) (encC c3 ac w)) (hX : va_X b L xs s s.heap) (hbl : b < s.heap.size) (hbA : ¬ A b) (hf : cells ≤ room_1.cells ∧ slots ≤ room_1.slots) (hi : i + 6 ≤ L) (hL : L ≤ 384) (hR : Rel wc wm) (hC : va_P D vwCl (encC c3 ac wc) H) (hM : va_P D vwCl (encM c3 am wm) H) (hS : va_S A s.heap H locs) (hl : lv_has ls 4 [(0, .ref b), (1, .ref (ac 0)), (2, .ref (am 0)), (3, .int (nI i))])
    (kk : ∀ (H1 : Heap) (locs1 : List Loc) (wc1 wm1 : Mm), Rel wc1 wm1 → va_P D vwCl (encC c3 ac wc1) H1 → va_P D vwCl (encM c3 am wm1) H1 → va_S A s.heap H1 locs1 → W p l e room_1 s m #[Value.ref b] below meth c H1 locs1 cells slots Q (F0 m 1479 ls [])) : W p l e room_1 s m #[Value.ref b] below meth c H locs cells slots Q (F0 m 1127 ls []) := by
  have hx := XC.1
  have hb := XC.2.1
  have hts := XC.2.2.2.2.1
  obtain ⟨r, h7, h8⟩ := sim_kinds hR (xs (i + 1)) (xs (i + 2)) (xs (i + 3)) (xs (i + 4))
  refine lv_aload_n hx hb dL_law_1127 rfl (lv_at hl 1 rfl) ?_
  refine z_arg (k := 1) hx hb hX hbl hbA hS hl (j0 := 0) (j3 := 3) rfl rfl (by omega) hL dL_law_1128 dL_law_1129 dL_law_1130 dL_law_1131 dL_law_1132 ?_
  refine z_arg (k := 2) hx hb hX hbl hbA hS hl (j0 := 0) (j3 := 3) rfl rfl (by omega) hL dL_law_1133 dL_law_1134 dL_law_1135 dL_law_1136 dL_law_1137 ?_
  refine z_arg (k := 3) hx hb hX hbl hbA hS hl (j0 := 0) (j3 := 3) rfl rfl (by omega) hL dL_law_1138 dL_law_1139 dL_law_1140 dL_law_1141 dL_law_1142 ?_
  refine z_arg (k := 4) hx hb hX hbl hbA hS hl (j0 := 0) (j3 := 3) rfl rfl (by omega) hL dL_law_1143 dL_law_1144 dL_law_1145 dL_law_1146 dL_law_1147 ?_
  refine z_goi (w' := wc) XC hS hM (hcm wc wm) (z_runV (As := [.int (xs (i + 1)), .int (xs (i + 2)), .int (xs (i + 3)), .int (xs (i + 4))]) (rest := []) XC gC_ok hC hS (ctX7_kinds l D c3 ac wc _ (xs (i + 1)) (xs (i + 2)) (xs (i + 3)) (xs (i + 4)) _ h7) (cwV 4 hts gL_law_X7_kinds rfl rfl rfl (by decide +kernel) ⟨by decide, by decide⟩) (gC0 c3 ac wc) rfl rfl rfl hl.1 rfl (Nat.le_of_ble_eq_true rfl) dL_law_1148 hf) (fun H locs hC hM hS => ?_)
  refine lv_aload_n hx hb dL_law_1151 rfl (lv_at hl 2 rfl) ?_
  refine z_arg (k := 1) hx hb hX hbl hbA hS hl (j0 := 0) (j3 := 3) rfl rfl (by omega) hL dL_law_1152 dL_law_1153 dL_law_1154 dL_law_1155 dL_law_1156 ?_
  refine z_arg (k := 2) hx hb hX hbl hbA hS hl (j0 := 0) (j3 := 3) rfl rfl (by omega) hL dL_law_1157 dL_law_1158 dL_law_1159 dL_law_1160 dL_law_1161 ?_
  refine z_arg (k := 3) hx hb hX hbl hbA hS hl (j0 := 0) (j3 := 3) rfl rfl (by omega) hL dL_law_1162 dL_law_1163 dL_law_1164 dL_law_1165 dL_law_1166 ?_
  refine z_arg (k := 4) hx hb hX hbl hbA hS hl (j0 := 0) (j3 := 3) rfl rfl (by omega) hL dL_law_1167 dL_law_1168 dL_law_1169 dL_law_1170 dL_law_1171 ?_
  refine z_goi (w' := wm) XM hS hC (hmc wm wc) (z_runV (As := [.int (xs (i + 1)), .int (xs (i + 2)), .int (xs (i + 3)), .int (xs (i + 4))]) (rest := [.int r]) XM gM_ok hM hS (ctX8_kinds l D c3 am wm _ (xs (i + 1)) (xs (i + 2)) (xs (i + 3)) (xs (i + 4)) _ h8) (cwV 4 hts gL_law_X8_kinds rfl rfl rfl (by decide +kernel) ⟨by decide, by decide⟩) (gM0 c3 am wm) rfl rfl rfl hl.1 rfl (Nat.le_of_ble_eq_true rfl) dL_law_1172 hf) (fun H locs hM hC hS => ?_)
  refine lv_icmp_eq (tgt := 1479) hx hb dL_law_1175 (by decide) (fun _ => ?_) (fun c_9 => absurd rfl c_9)
  exact kk _ _ wc wm hR hC hM hS
set_option maxRecDepth 20000 in
theorem cs_32 {p : Program} {l : Launch} {e : Env} {s : State} {m : MethodId} {below : List Frame} {meth : Method} {c : Code} {H : Heap} {locs : List Loc} {Q : State → Prop} {D : va_G} {c3 : C3} {ac am : Nat → Nat} {A : Nat → Prop} {b L i : Nat} {xs : Nat → Int32} {ls : Array Slot} {wc wm : Mm} {cells slots : Nat} (XC : Cx p s m #[Value.ref b] c code 4 RL wsL_law D c3 (encC c3 ac) gC A) (XM : Cx p s m #[Value.ref b] c code 4 RL wsL_law D c3 (encM c3 am) gM A) (hcm : ∀ v w, Apart (encC c3 ac v) (encM c3 am w)) (hmc : ∀ v w, Apart (encM c3 am v) (encC c3 ac w)) (hX : va_X b L xs s s.heap) (hbl : b < s.heap.size) (hbA : ¬ A b) (hf : cells ≤ room_1.cells ∧ slots ≤ room_1.slots) (hi : i + 6 ≤ L) (hL : L ≤ 384) (hR : Rel wc wm) (hC : va_P D vwCl (encC c3 ac wc) H) (hM : va_P D vwCl (encM c3 am wm) H) (hS : va_S A s.heap H locs) (hl : lv_has ls 4 [(0, .ref b), (1, .ref (ac 0)), (2, .ref (am 0)), (3, .int (nI i))])
    (kk : ∀ (H1 : Heap) (locs1 : List Loc) (wc1 wm1 : Mm), Rel wc1 wm1 → va_P D vwCl (encC c3 ac wc1) H1 → va_P D vwCl (encM c3 am wm1) H1 → va_S A s.heap H1 locs1 → W p l e room_1 s m #[Value.ref b] below meth c H1 locs1 cells slots Q (F0 m 1479 ls [])) : W p l e room_1 s m #[Value.ref b] below meth c H locs cells slots Q (F0 m 1180 ls []) := by
  have hx := XC.1
  have hb := XC.2.1
  have hts := XC.2.2.2.2.1
  obtain ⟨r, wc1, wm1, h7, h8, hR1⟩ := sim_duel hR (xs (i + 1)) (xs (i + 2))
  refine lv_aload_n hx hb dL_law_1180 rfl (lv_at hl 1 rfl) ?_
  refine z_arg (k := 1) hx hb hX hbl hbA hS hl (j0 := 0) (j3 := 3) rfl rfl (by omega) hL dL_law_1181 dL_law_1182 dL_law_1183 dL_law_1184 dL_law_1185 ?_
  refine z_arg (k := 2) hx hb hX hbl hbA hS hl (j0 := 0) (j3 := 3) rfl rfl (by omega) hL dL_law_1186 dL_law_1187 dL_law_1188 dL_law_1189 dL_law_1190 ?_
  refine z_goi (w' := wc1) XC hS hM (hcm wc wm) (z_runV (As := [.int (xs (i + 1)), .int (xs (i + 2))]) (rest := []) XC gC_ok hC hS (ctX7_duel l D c3 ac wc _ (xs (i + 1)) (xs (i + 2)) _ _ h7) (cwV 2 hts gL_law_X7_duel rfl rfl rfl (by decide +kernel) ⟨by decide, by decide⟩) (gC0 c3 ac wc) rfl rfl rfl hl.1 rfl (Nat.le_of_ble_eq_true rfl) dL_law_1191 hf) (fun H locs hC hM hS => ?_)
  refine lv_aload_n hx hb dL_law_1194 rfl (lv_at hl 2 rfl) ?_
  refine z_arg (k := 1) hx hb hX hbl hbA hS hl (j0 := 0) (j3 := 3) rfl rfl (by omega) hL dL_law_1195 dL_law_1196 dL_law_1197 dL_law_1198 dL_law_1199 ?_
  refine z_arg (k := 2) hx hb hX hbl hbA hS hl (j0 := 0) (j3 := 3) rfl rfl (by omega) hL dL_law_1200 dL_law_1201 dL_law_1202 dL_law_1203 dL_law_1204 ?_
  refine z_goi (w' := wm1) XM hS hC (hmc wm wc1) (z_runV (As := [.int (xs (i + 1)), .int (xs (i + 2))]) (rest := [.int r]) XM gM_ok hM hS (ctX8_duel l D c3 am wm _ (xs (i + 1)) (xs (i + 2)) _ _ h8) (cwV 2 hts gL_law_X8_duel rfl rfl rfl (by decide +kernel) ⟨by decide, by decide⟩) (gM0 c3 am wm) rfl rfl rfl hl.1 rfl (Nat.le_of_ble_eq_true rfl) dL_law_1205 hf) (fun H locs hM hC hS => ?_)
  refine lv_icmp_eq (tgt := 1479) hx hb dL_law_1208 (by decide) (fun _ => ?_) (fun c_9 => absurd rfl c_9)
  exact kk _ _ wc1 wm1 hR1 hC hM hS
set_option maxRecDepth 20000 in
theorem cs_33 {p : Program} {l : Launch} {e : Env} {s : State} {m : MethodId} {below : List Frame} {meth : Method} {c : Code} {H : Heap} {locs : List Loc} {Q : State → Prop} {D : va_G} {c3 : C3} {ac am : Nat → Nat} {A : Nat → Prop} {b L i : Nat} {xs : Nat → Int32} {ls : Array Slot} {wc wm : Mm} {cells slots : Nat} (XC : Cx p s m #[Value.ref b] c code 4 RL wsL_law D c3 (encC c3 ac) gC A) (XM : Cx p s m #[Value.ref b] c code 4 RL wsL_law D c3 (encM c3 am) gM A) (hcm : ∀ v w, Apart (encC c3 ac v) (encM c3 am w)) (hmc : ∀ v w, Apart (encM c3 am v) (encC c3 ac w)) (hX : va_X b L xs s s.heap) (hbl : b < s.heap.size) (hbA : ¬ A b) (hf : cells ≤ room_1.cells ∧ slots ≤ room_1.slots) (hi : i + 6 ≤ L) (hL : L ≤ 384) (hR : Rel wc wm) (hC : va_P D vwCl (encC c3 ac wc) H) (hM : va_P D vwCl (encM c3 am wm) H) (hS : va_S A s.heap H locs) (hl : lv_has ls 4 [(0, .ref b), (1, .ref (ac 0)), (2, .ref (am 0)), (3, .int (nI i))])
    (kk : ∀ (H1 : Heap) (locs1 : List Loc) (wc1 wm1 : Mm), Rel wc1 wm1 → va_P D vwCl (encC c3 ac wc1) H1 → va_P D vwCl (encM c3 am wm1) H1 → va_S A s.heap H1 locs1 → W p l e room_1 s m #[Value.ref b] below meth c H1 locs1 cells slots Q (F0 m 1479 ls [])) : W p l e room_1 s m #[Value.ref b] below meth c H locs cells slots Q (F0 m 1213 ls []) := by
  have hx := XC.1
  have hb := XC.2.1
  have hts := XC.2.2.2.2.1
  obtain ⟨r, wc1, wm1, h7, h8, hR1⟩ := sim_opens hR (xs (i + 1)) (xs (i + 2))
  refine lv_aload_n hx hb dL_law_1213 rfl (lv_at hl 1 rfl) ?_
  refine z_arg (k := 1) hx hb hX hbl hbA hS hl (j0 := 0) (j3 := 3) rfl rfl (by omega) hL dL_law_1214 dL_law_1215 dL_law_1216 dL_law_1217 dL_law_1218 ?_
  refine z_arg (k := 2) hx hb hX hbl hbA hS hl (j0 := 0) (j3 := 3) rfl rfl (by omega) hL dL_law_1219 dL_law_1220 dL_law_1221 dL_law_1222 dL_law_1223 ?_
  refine z_goi (w' := wc1) XC hS hM (hcm wc wm) (z_runV (As := [.int (xs (i + 1)), .int (xs (i + 2))]) (rest := []) XC gC_ok hC hS (ctX7_opens l D c3 ac wc _ (xs (i + 1)) (xs (i + 2)) _ _ h7) (cwV 2 hts gL_law_X7_opens rfl rfl rfl (by decide +kernel) ⟨by decide, by decide⟩) (gC0 c3 ac wc) rfl rfl rfl hl.1 rfl (Nat.le_of_ble_eq_true rfl) dL_law_1224 hf) (fun H locs hC hM hS => ?_)
  refine lv_aload_n hx hb dL_law_1227 rfl (lv_at hl 2 rfl) ?_
  refine z_arg (k := 1) hx hb hX hbl hbA hS hl (j0 := 0) (j3 := 3) rfl rfl (by omega) hL dL_law_1228 dL_law_1229 dL_law_1230 dL_law_1231 dL_law_1232 ?_
  refine z_arg (k := 2) hx hb hX hbl hbA hS hl (j0 := 0) (j3 := 3) rfl rfl (by omega) hL dL_law_1233 dL_law_1234 dL_law_1235 dL_law_1236 dL_law_1237 ?_
  refine z_goi (w' := wm1) XM hS hC (hmc wm wc1) (z_runV (As := [.int (xs (i + 1)), .int (xs (i + 2))]) (rest := [.int r]) XM gM_ok hM hS (ctX8_opens l D c3 am wm _ (xs (i + 1)) (xs (i + 2)) _ _ h8) (cwV 2 hts gL_law_X8_opens rfl rfl rfl (by decide +kernel) ⟨by decide, by decide⟩) (gM0 c3 am wm) rfl rfl rfl hl.1 rfl (Nat.le_of_ble_eq_true rfl) dL_law_1238 hf) (fun H locs hM hC hS => ?_)
  refine lv_icmp_eq (tgt := 1479) hx hb dL_law_1241 (by decide) (fun _ => ?_) (fun c_9 => absurd rfl c_9)
  exact kk _ _ wc1 wm1 hR1 hC hM hS
set_option maxRecDepth 20000 in
theorem cs_34 {p : Program} {l : Launch} {e : Env} {s : State} {m : MethodId} {below : List Frame} {meth : Method} {c : Code} {H : Heap} {locs : List Loc} {Q : State → Prop} {D : va_G} {c3 : C3} {ac am : Nat → Nat} {A : Nat → Prop} {b L i : Nat} {xs : Nat → Int32} {ls : Array Slot} {wc wm : Mm} {cells slots : Nat} (XC : Cx p s m #[Value.ref b] c code 4 RL wsL_law D c3 (encC c3 ac) gC A) (XM : Cx p s m #[Value.ref b] c code 4 RL wsL_law D c3 (encM c3 am) gM A) (hcm : ∀ v w, Apart (encC c3 ac v) (encM c3 am w)) (hmc : ∀ v w, Apart (encM c3 am v) (encC c3 ac w)) (hX : va_X b L xs s s.heap) (hbl : b < s.heap.size) (hbA : ¬ A b) (hf : cells ≤ room_1.cells ∧ slots ≤ room_1.slots) (hi : i + 6 ≤ L) (hL : L ≤ 384) (hR : Rel wc wm) (hC : va_P D vwCl (encC c3 ac wc) H) (hM : va_P D vwCl (encM c3 am wm) H) (hS : va_S A s.heap H locs) (hl : lv_has ls 4 [(0, .ref b), (1, .ref (ac 0)), (2, .ref (am 0)), (3, .int (nI i))])
    (kk : ∀ (H1 : Heap) (locs1 : List Loc) (wc1 wm1 : Mm), Rel wc1 wm1 → va_P D vwCl (encC c3 ac wc1) H1 → va_P D vwCl (encM c3 am wm1) H1 → va_S A s.heap H1 locs1 → W p l e room_1 s m #[Value.ref b] below meth c H1 locs1 cells slots Q (F0 m 1479 ls [])) : W p l e room_1 s m #[Value.ref b] below meth c H locs cells slots Q (F0 m 1246 ls []) := by
  have hx := XC.1
  have hb := XC.2.1
  have hts := XC.2.2.2.2.1
  obtain ⟨r, wc1, wm1, h7, h8, hR1⟩ := sim_mid hR (xs (i + 1)) (xs (i + 2))
  refine lv_aload_n hx hb dL_law_1246 rfl (lv_at hl 1 rfl) ?_
  refine z_arg (k := 1) hx hb hX hbl hbA hS hl (j0 := 0) (j3 := 3) rfl rfl (by omega) hL dL_law_1247 dL_law_1248 dL_law_1249 dL_law_1250 dL_law_1251 ?_
  refine z_arg (k := 2) hx hb hX hbl hbA hS hl (j0 := 0) (j3 := 3) rfl rfl (by omega) hL dL_law_1252 dL_law_1253 dL_law_1254 dL_law_1255 dL_law_1256 ?_
  refine z_goi (w' := wc1) XC hS hM (hcm wc wm) (z_runV (As := [.int (xs (i + 1)), .int (xs (i + 2))]) (rest := []) XC gC_ok hC hS (ctX7_mid l D c3 ac wc _ (xs (i + 1)) (xs (i + 2)) _ _ h7) (cwV 2 hts gL_law_X7_mid rfl rfl rfl (by decide +kernel) ⟨by decide, by decide⟩) (gC0 c3 ac wc) rfl rfl rfl hl.1 rfl (Nat.le_of_ble_eq_true rfl) dL_law_1257 hf) (fun H locs hC hM hS => ?_)
  refine lv_aload_n hx hb dL_law_1260 rfl (lv_at hl 2 rfl) ?_
  refine z_arg (k := 1) hx hb hX hbl hbA hS hl (j0 := 0) (j3 := 3) rfl rfl (by omega) hL dL_law_1261 dL_law_1262 dL_law_1263 dL_law_1264 dL_law_1265 ?_
  refine z_arg (k := 2) hx hb hX hbl hbA hS hl (j0 := 0) (j3 := 3) rfl rfl (by omega) hL dL_law_1266 dL_law_1267 dL_law_1268 dL_law_1269 dL_law_1270 ?_
  refine z_goi (w' := wm1) XM hS hC (hmc wm wc1) (z_runV (As := [.int (xs (i + 1)), .int (xs (i + 2))]) (rest := [.int r]) XM gM_ok hM hS (ctX8_mid l D c3 am wm _ (xs (i + 1)) (xs (i + 2)) _ _ h8) (cwV 2 hts gL_law_X8_mid rfl rfl rfl (by decide +kernel) ⟨by decide, by decide⟩) (gM0 c3 am wm) rfl rfl rfl hl.1 rfl (Nat.le_of_ble_eq_true rfl) dL_law_1271 hf) (fun H locs hM hC hS => ?_)
  refine lv_icmp_eq (tgt := 1479) hx hb dL_law_1274 (by decide) (fun _ => ?_) (fun c_9 => absurd rfl c_9)
  exact kk _ _ wc1 wm1 hR1 hC hM hS
set_option maxRecDepth 20000 in
theorem cs_35 {p : Program} {l : Launch} {e : Env} {s : State} {m : MethodId} {below : List Frame} {meth : Method} {c : Code} {H : Heap} {locs : List Loc} {Q : State → Prop} {D : va_G} {c3 : C3} {ac am : Nat → Nat} {A : Nat → Prop} {b L i : Nat} {xs : Nat → Int32} {ls : Array Slot} {wc wm : Mm} {cells slots : Nat} (XC : Cx p s m #[Value.ref b] c code 4 RL wsL_law D c3 (encC c3 ac) gC A) (XM : Cx p s m #[Value.ref b] c code 4 RL wsL_law D c3 (encM c3 am) gM A) (hcm : ∀ v w, Apart (encC c3 ac v) (encM c3 am w)) (hmc : ∀ v w, Apart (encM c3 am v) (encC c3 ac w)) (hX : va_X b L xs s s.heap) (hbl : b < s.heap.size) (hbA : ¬ A b) (hf : cells ≤ room_1.cells ∧ slots ≤ room_1.slots) (hi : i + 6 ≤ L) (hL : L ≤ 384) (hR : Rel wc wm) (hC : va_P D vwCl (encC c3 ac wc) H) (hM : va_P D vwCl (encM c3 am wm) H) (hS : va_S A s.heap H locs) (hl : lv_has ls 4 [(0, .ref b), (1, .ref (ac 0)), (2, .ref (am 0)), (3, .int (nI i))])
    (kk : ∀ (H1 : Heap) (locs1 : List Loc) (wc1 wm1 : Mm), Rel wc1 wm1 → va_P D vwCl (encC c3 ac wc1) H1 → va_P D vwCl (encM c3 am wm1) H1 → va_S A s.heap H1 locs1 → W p l e room_1 s m #[Value.ref b] below meth c H1 locs1 cells slots Q (F0 m 1479 ls [])) : W p l e room_1 s m #[Value.ref b] below meth c H locs cells slots Q (F0 m 1279 ls []) := by
  have hx := XC.1
  have hb := XC.2.1
  have hts := XC.2.2.2.2.1
  obtain ⟨r, wc1, wm1, h7, h8, hR1⟩ := sim_odds hR (xs (i + 1)) (xs (i + 2)) (xs (i + 3)) (xs (i + 4))
  refine lv_aload_n hx hb dL_law_1279 rfl (lv_at hl 1 rfl) ?_
  refine z_arg (k := 1) hx hb hX hbl hbA hS hl (j0 := 0) (j3 := 3) rfl rfl (by omega) hL dL_law_1280 dL_law_1281 dL_law_1282 dL_law_1283 dL_law_1284 ?_
  refine z_arg (k := 2) hx hb hX hbl hbA hS hl (j0 := 0) (j3 := 3) rfl rfl (by omega) hL dL_law_1285 dL_law_1286 dL_law_1287 dL_law_1288 dL_law_1289 ?_
  refine z_arg (k := 3) hx hb hX hbl hbA hS hl (j0 := 0) (j3 := 3) rfl rfl (by omega) hL dL_law_1290 dL_law_1291 dL_law_1292 dL_law_1293 dL_law_1294 ?_
  refine z_arg (k := 4) hx hb hX hbl hbA hS hl (j0 := 0) (j3 := 3) rfl rfl (by omega) hL dL_law_1295 dL_law_1296 dL_law_1297 dL_law_1298 dL_law_1299 ?_
  refine z_goi (w' := wc1) XC hS hM (hcm wc wm) (z_runV (As := [.int (xs (i + 1)), .int (xs (i + 2)), .int (xs (i + 3)), .int (xs (i + 4))]) (rest := []) XC gC_ok hC hS (ctX7_odds l D c3 ac wc _ (xs (i + 1)) (xs (i + 2)) (xs (i + 3)) (xs (i + 4)) _ _ h7) (cwV 4 hts gL_law_X7_odds rfl rfl rfl (by decide +kernel) ⟨by decide, by decide⟩) (gC0 c3 ac wc) rfl rfl rfl hl.1 rfl (Nat.le_of_ble_eq_true rfl) dL_law_1300 hf) (fun H locs hC hM hS => ?_)
  refine lv_aload_n hx hb dL_law_1303 rfl (lv_at hl 2 rfl) ?_
  refine z_arg (k := 1) hx hb hX hbl hbA hS hl (j0 := 0) (j3 := 3) rfl rfl (by omega) hL dL_law_1304 dL_law_1305 dL_law_1306 dL_law_1307 dL_law_1308 ?_
  refine z_arg (k := 2) hx hb hX hbl hbA hS hl (j0 := 0) (j3 := 3) rfl rfl (by omega) hL dL_law_1309 dL_law_1310 dL_law_1311 dL_law_1312 dL_law_1313 ?_
  refine z_arg (k := 3) hx hb hX hbl hbA hS hl (j0 := 0) (j3 := 3) rfl rfl (by omega) hL dL_law_1314 dL_law_1315 dL_law_1316 dL_law_1317 dL_law_1318 ?_
  refine z_arg (k := 4) hx hb hX hbl hbA hS hl (j0 := 0) (j3 := 3) rfl rfl (by omega) hL dL_law_1319 dL_law_1320 dL_law_1321 dL_law_1322 dL_law_1323 ?_
  refine z_goi (w' := wm1) XM hS hC (hmc wm wc1) (z_runV (As := [.int (xs (i + 1)), .int (xs (i + 2)), .int (xs (i + 3)), .int (xs (i + 4))]) (rest := [.int r]) XM gM_ok hM hS (ctX8_odds l D c3 am wm _ (xs (i + 1)) (xs (i + 2)) (xs (i + 3)) (xs (i + 4)) _ _ h8) (cwV 4 hts gL_law_X8_odds rfl rfl rfl (by decide +kernel) ⟨by decide, by decide⟩) (gM0 c3 am wm) rfl rfl rfl hl.1 rfl (Nat.le_of_ble_eq_true rfl) dL_law_1324 hf) (fun H locs hM hC hS => ?_)
  refine lv_icmp_eq (tgt := 1479) hx hb dL_law_1327 (by decide) (fun _ => ?_) (fun c_9 => absurd rfl c_9)
  exact kk _ _ wc1 wm1 hR1 hC hM hS
set_option maxRecDepth 20000 in
theorem cs_36 {p : Program} {l : Launch} {e : Env} {s : State} {m : MethodId} {below : List Frame} {meth : Method} {c : Code} {H : Heap} {locs : List Loc} {Q : State → Prop} {D : va_G} {c3 : C3} {ac am : Nat → Nat} {A : Nat → Prop} {b L i : Nat} {xs : Nat → Int32} {ls : Array Slot} {wc wm : Mm} {cells slots : Nat} (XC : Cx p s m #[Value.ref b] c code 4 RL wsL_law D c3 (encC c3 ac) gC A) (XM : Cx p s m #[Value.ref b] c code 4 RL wsL_law D c3 (encM c3 am) gM A) (hcm : ∀ v w, Apart (encC c3 ac v) (encM c3 am w)) (hmc : ∀ v w, Apart (encM c3 am v) (encC c3 ac w)) (hX : va_X b L xs s s.heap) (hbl : b < s.heap.size) (hbA : ¬ A b) (hf : cells ≤ room_1.cells ∧ slots ≤ room_1.slots) (hi : i + 6 ≤ L) (hL : L ≤ 384) (hR : Rel wc wm) (hC : va_P D vwCl (encC c3 ac wc) H) (hM : va_P D vwCl (encM c3 am wm) H) (hS : va_S A s.heap H locs) (hl : lv_has ls 4 [(0, .ref b), (1, .ref (ac 0)), (2, .ref (am 0)), (3, .int (nI i))])
    (kk : ∀ (H1 : Heap) (locs1 : List Loc) (wc1 wm1 : Mm), Rel wc1 wm1 → va_P D vwCl (encC c3 ac wc1) H1 → va_P D vwCl (encM c3 am wm1) H1 → va_S A s.heap H1 locs1 → W p l e room_1 s m #[Value.ref b] below meth c H1 locs1 cells slots Q (F0 m 1479 ls [])) : W p l e room_1 s m #[Value.ref b] below meth c H locs cells slots Q (F0 m 1332 ls []) := by
  have hx := XC.1
  have hb := XC.2.1
  have hts := XC.2.2.2.2.1
  obtain ⟨r, wc1, wm1, h7, h8, hR1⟩ := sim_lots hR (xs (i + 1)) (xs (i + 2))
  refine lv_aload_n hx hb dL_law_1332 rfl (lv_at hl 1 rfl) ?_
  refine z_arg (k := 1) hx hb hX hbl hbA hS hl (j0 := 0) (j3 := 3) rfl rfl (by omega) hL dL_law_1333 dL_law_1334 dL_law_1335 dL_law_1336 dL_law_1337 ?_
  refine z_arg (k := 2) hx hb hX hbl hbA hS hl (j0 := 0) (j3 := 3) rfl rfl (by omega) hL dL_law_1338 dL_law_1339 dL_law_1340 dL_law_1341 dL_law_1342 ?_
  refine z_goi (w' := wc1) XC hS hM (hcm wc wm) (z_runV (As := [.int (xs (i + 1)), .int (xs (i + 2))]) (rest := []) XC gC_ok hC hS (ctX7_lots l D c3 ac wc _ (xs (i + 1)) (xs (i + 2)) _ _ h7) (cwV 2 hts gL_law_X7_lots rfl rfl rfl (by decide +kernel) ⟨by decide, by decide⟩) (gC0 c3 ac wc) rfl rfl rfl hl.1 rfl (Nat.le_of_ble_eq_true rfl) dL_law_1343 hf) (fun H locs hC hM hS => ?_)
  refine lv_aload_n hx hb dL_law_1346 rfl (lv_at hl 2 rfl) ?_
  refine z_arg (k := 1) hx hb hX hbl hbA hS hl (j0 := 0) (j3 := 3) rfl rfl (by omega) hL dL_law_1347 dL_law_1348 dL_law_1349 dL_law_1350 dL_law_1351 ?_
  refine z_arg (k := 2) hx hb hX hbl hbA hS hl (j0 := 0) (j3 := 3) rfl rfl (by omega) hL dL_law_1352 dL_law_1353 dL_law_1354 dL_law_1355 dL_law_1356 ?_
  refine z_goi (w' := wm1) XM hS hC (hmc wm wc1) (z_runV (As := [.int (xs (i + 1)), .int (xs (i + 2))]) (rest := [.int r]) XM gM_ok hM hS (ctX8_lots l D c3 am wm _ (xs (i + 1)) (xs (i + 2)) _ _ h8) (cwV 2 hts gL_law_X8_lots rfl rfl rfl (by decide +kernel) ⟨by decide, by decide⟩) (gM0 c3 am wm) rfl rfl rfl hl.1 rfl (Nat.le_of_ble_eq_true rfl) dL_law_1357 hf) (fun H locs hM hC hS => ?_)
  refine lv_icmp_eq (tgt := 1479) hx hb dL_law_1360 (by decide) (fun _ => ?_) (fun c_9 => absurd rfl c_9)
  exact kk _ _ wc1 wm1 hR1 hC hM hS
set_option maxRecDepth 20000 in
theorem cs_37 {p : Program} {l : Launch} {e : Env} {s : State} {m : MethodId} {below : List Frame} {meth : Method} {c : Code} {H : Heap} {locs : List Loc} {Q : State → Prop} {D : va_G} {c3 : C3} {ac am : Nat → Nat} {A : Nat → Prop} {b L i : Nat} {xs : Nat → Int32} {ls : Array Slot} {wc wm : Mm} {cells slots : Nat} (XC : Cx p s m #[Value.ref b] c code 4 RL wsL_law D c3 (encC c3 ac) gC A) (XM : Cx p s m #[Value.ref b] c code 4 RL wsL_law D c3 (encM c3 am) gM A) (hcm : ∀ v w, Apart (encC c3 ac v) (encM c3 am w)) (hmc : ∀ v w, Apart (encM c3 am v) (encC c3 ac w)) (hX : va_X b L xs s s.heap) (hbl : b < s.heap.size) (hbA : ¬ A b) (hf : cells ≤ room_1.cells ∧ slots ≤ room_1.slots) (hi : i + 6 ≤ L) (hL : L ≤ 384) (hR : Rel wc wm) (hC : va_P D vwCl (encC c3 ac wc) H) (hM : va_P D vwCl (encM c3 am wm) H) (hS : va_S A s.heap H locs) (hl : lv_has ls 4 [(0, .ref b), (1, .ref (ac 0)), (2, .ref (am 0)), (3, .int (nI i))])
    (kk : ∀ (H1 : Heap) (locs1 : List Loc) (wc1 wm1 : Mm), Rel wc1 wm1 → va_P D vwCl (encC c3 ac wc1) H1 → va_P D vwCl (encM c3 am wm1) H1 → va_S A s.heap H1 locs1 → W p l e room_1 s m #[Value.ref b] below meth c H1 locs1 cells slots Q (F0 m 1479 ls [])) : W p l e room_1 s m #[Value.ref b] below meth c H locs cells slots Q (F0 m 1365 ls []) := by
  have hx := XC.1
  have hb := XC.2.1
  have hts := XC.2.2.2.2.1
  obtain ⟨r, h7, h8⟩ := sim_asked hR
  refine lv_aload_n hx hb dL_law_1365 rfl (lv_at hl 1 rfl) ?_
  refine z_goi (w' := wc) XC hS hM (hcm wc wm) (z_runV (As := []) (rest := []) XC gC_ok hC hS (ctX7_asked l D c3 ac wc _ _ h7) (cwV 0 hts gL_law_X7_asked rfl rfl rfl (by decide +kernel) ⟨by decide, by decide⟩) (gC0 c3 ac wc) rfl rfl rfl hl.1 rfl (Nat.le_of_ble_eq_true rfl) dL_law_1366 hf) (fun H locs hC hM hS => ?_)
  refine lv_aload_n hx hb dL_law_1369 rfl (lv_at hl 2 rfl) ?_
  refine z_goi (w' := wm) XM hS hC (hmc wm wc) (z_runV (As := []) (rest := [.int r]) XM gM_ok hM hS (ctX8_asked l D c3 am wm _ _ h8) (cwV 0 hts gL_law_X8_asked rfl rfl rfl (by decide +kernel) ⟨by decide, by decide⟩) (gM0 c3 am wm) rfl rfl rfl hl.1 rfl (Nat.le_of_ble_eq_true rfl) dL_law_1370 hf) (fun H locs hM hC hS => ?_)
  refine lv_icmp_eq (tgt := 1479) hx hb dL_law_1373 (by decide) (fun _ => ?_) (fun c_9 => absurd rfl c_9)
  exact kk _ _ wc wm hR hC hM hS
set_option maxRecDepth 20000 in
theorem cs_38 {p : Program} {l : Launch} {e : Env} {s : State} {m : MethodId} {below : List Frame} {meth : Method} {c : Code} {H : Heap} {locs : List Loc} {Q : State → Prop} {D : va_G} {c3 : C3} {ac am : Nat → Nat} {A : Nat → Prop} {b L i : Nat} {xs : Nat → Int32} {ls : Array Slot} {wc wm : Mm} {cells slots : Nat} (XC : Cx p s m #[Value.ref b] c code 4 RL wsL_law D c3 (encC c3 ac) gC A) (XM : Cx p s m #[Value.ref b] c code 4 RL wsL_law D c3 (encM c3 am) gM A) (hcm : ∀ v w, Apart (encC c3 ac v) (encM c3 am w)) (hmc : ∀ v w, Apart (encM c3 am v) (encC c3 ac w)) (hX : va_X b L xs s s.heap) (hbl : b < s.heap.size) (hbA : ¬ A b) (hf : cells ≤ room_1.cells ∧ slots ≤ room_1.slots) (hi : i + 6 ≤ L) (hL : L ≤ 384) (hR : Rel wc wm) (hC : va_P D vwCl (encC c3 ac wc) H) (hM : va_P D vwCl (encM c3 am wm) H) (hS : va_S A s.heap H locs) (hl : lv_has ls 4 [(0, .ref b), (1, .ref (ac 0)), (2, .ref (am 0)), (3, .int (nI i))])
    (kk : ∀ (H1 : Heap) (locs1 : List Loc) (wc1 wm1 : Mm), Rel wc1 wm1 → va_P D vwCl (encC c3 ac wc1) H1 → va_P D vwCl (encM c3 am wm1) H1 → va_S A s.heap H1 locs1 → W p l e room_1 s m #[Value.ref b] below meth c H1 locs1 cells slots Q (F0 m 1479 ls [])) : W p l e room_1 s m #[Value.ref b] below meth c H locs cells slots Q (F0 m 1378 ls []) := by
  have hx := XC.1
  have hb := XC.2.1
  have hts := XC.2.2.2.2.1
  obtain ⟨r, h7, h8⟩ := sim_upper hR
  refine lv_aload_n hx hb dL_law_1378 rfl (lv_at hl 1 rfl) ?_
  refine z_gol (w' := wc) XC hS hM (hcm wc wm) (z_runV (As := []) (rest := []) XC gC_ok hC hS (ctX7_upper l D c3 ac wc _ _ h7) (cwV 0 hts gL_law_X7_upper rfl rfl rfl (by decide +kernel) ⟨by decide, by decide⟩) (gC0 c3 ac wc) rfl rfl rfl hl.1 rfl (Nat.le_of_ble_eq_true rfl) dL_law_1379 hf) (fun H locs hC hM hS => ?_)
  refine lv_aload_n hx hb dL_law_1382 rfl (lv_at hl 2 rfl) ?_
  refine z_gol (w' := wm) XM hS hC (hmc wm wc) (z_runV (As := []) (rest := [.long r]) XM gM_ok hM hS (ctX8_upper l D c3 am wm _ _ h8) (cwV 0 hts gL_law_X8_upper rfl rfl rfl (by decide +kernel) ⟨by decide, by decide⟩) (gM0 c3 am wm) rfl rfl rfl hl.1 rfl (Nat.le_of_ble_eq_true rfl) dL_law_1383 hf) (fun H locs hM hC hS => ?_)
  refine W.lcmp hx hb dL_law_1386 ?_
  refine lv_if_eq (tgt := 1479) hx hb dL_law_1387 (by decide) (fun _ => ?_) (fun c_9 => absurd (lg_eq.mpr rfl) c_9)
  exact kk _ _ wc wm hR hC hM hS
set_option maxRecDepth 20000 in
theorem cs_39 {p : Program} {l : Launch} {e : Env} {s : State} {m : MethodId} {below : List Frame} {meth : Method} {c : Code} {H : Heap} {locs : List Loc} {Q : State → Prop} {D : va_G} {c3 : C3} {ac am : Nat → Nat} {A : Nat → Prop} {b L i : Nat} {xs : Nat → Int32} {ls : Array Slot} {wc wm : Mm} {cells slots : Nat} (XC : Cx p s m #[Value.ref b] c code 4 RL wsL_law D c3 (encC c3 ac) gC A) (XM : Cx p s m #[Value.ref b] c code 4 RL wsL_law D c3 (encM c3 am) gM A) (hcm : ∀ v w, Apart (encC c3 ac v) (encM c3 am w)) (hmc : ∀ v w, Apart (encM c3 am v) (encC c3 ac w)) (hX : va_X b L xs s s.heap) (hbl : b < s.heap.size) (hbA : ¬ A b) (hf : cells ≤ room_1.cells ∧ slots ≤ room_1.slots) (hi : i + 6 ≤ L) (hL : L ≤ 384) (hR : Rel wc wm) (hC : va_P D vwCl (encC c3 ac wc) H) (hM : va_P D vwCl (encM c3 am wm) H) (hS : va_S A s.heap H locs) (hl : lv_has ls 4 [(0, .ref b), (1, .ref (ac 0)), (2, .ref (am 0)), (3, .int (nI i))])
    (kk : ∀ (H1 : Heap) (locs1 : List Loc) (wc1 wm1 : Mm), Rel wc1 wm1 → va_P D vwCl (encC c3 ac wc1) H1 → va_P D vwCl (encM c3 am wm1) H1 → va_S A s.heap H1 locs1 → W p l e room_1 s m #[Value.ref b] below meth c H1 locs1 cells slots Q (F0 m 1479 ls [])) : W p l e room_1 s m #[Value.ref b] below meth c H locs cells slots Q (F0 m 1392 ls []) := by
  have hx := XC.1
  have hb := XC.2.1
  have hts := XC.2.2.2.2.1
  obtain ⟨r, h7, h8⟩ := sim_lower hR
  refine lv_aload_n hx hb dL_law_1392 rfl (lv_at hl 1 rfl) ?_
  refine z_gol (w' := wc) XC hS hM (hcm wc wm) (z_runV (As := []) (rest := []) XC gC_ok hC hS (ctX7_lower l D c3 ac wc _ _ h7) (cwV 0 hts gL_law_X7_lower rfl rfl rfl (by decide +kernel) ⟨by decide, by decide⟩) (gC0 c3 ac wc) rfl rfl rfl hl.1 rfl (Nat.le_of_ble_eq_true rfl) dL_law_1393 hf) (fun H locs hC hM hS => ?_)
  refine lv_aload_n hx hb dL_law_1396 rfl (lv_at hl 2 rfl) ?_
  refine z_gol (w' := wm) XM hS hC (hmc wm wc) (z_runV (As := []) (rest := [.long r]) XM gM_ok hM hS (ctX8_lower l D c3 am wm _ _ h8) (cwV 0 hts gL_law_X8_lower rfl rfl rfl (by decide +kernel) ⟨by decide, by decide⟩) (gM0 c3 am wm) rfl rfl rfl hl.1 rfl (Nat.le_of_ble_eq_true rfl) dL_law_1397 hf) (fun H locs hM hC hS => ?_)
  refine W.lcmp hx hb dL_law_1400 ?_
  refine lv_if_eq (tgt := 1479) hx hb dL_law_1401 (by decide) (fun _ => ?_) (fun c_9 => absurd (lg_eq.mpr rfl) c_9)
  exact kk _ _ wc wm hR hC hM hS
set_option maxRecDepth 20000 in
theorem cs_40 {p : Program} {l : Launch} {e : Env} {s : State} {m : MethodId} {below : List Frame} {meth : Method} {c : Code} {H : Heap} {locs : List Loc} {Q : State → Prop} {D : va_G} {c3 : C3} {ac am : Nat → Nat} {A : Nat → Prop} {b L i : Nat} {xs : Nat → Int32} {ls : Array Slot} {wc wm : Mm} {cells slots : Nat} (XC : Cx p s m #[Value.ref b] c code 4 RL wsL_law D c3 (encC c3 ac) gC A) (XM : Cx p s m #[Value.ref b] c code 4 RL wsL_law D c3 (encM c3 am) gM A) (hcm : ∀ v w, Apart (encC c3 ac v) (encM c3 am w)) (hmc : ∀ v w, Apart (encM c3 am v) (encC c3 ac w)) (hX : va_X b L xs s s.heap) (hbl : b < s.heap.size) (hbA : ¬ A b) (hf : cells ≤ room_1.cells ∧ slots ≤ room_1.slots) (hi : i + 6 ≤ L) (hL : L ≤ 384) (hR : Rel wc wm) (hC : va_P D vwCl (encC c3 ac wc) H) (hM : va_P D vwCl (encM c3 am wm) H) (hS : va_S A s.heap H locs) (hl : lv_has ls 4 [(0, .ref b), (1, .ref (ac 0)), (2, .ref (am 0)), (3, .int (nI i))])
    (kk : ∀ (H1 : Heap) (locs1 : List Loc) (wc1 wm1 : Mm), Rel wc1 wm1 → va_P D vwCl (encC c3 ac wc1) H1 → va_P D vwCl (encM c3 am wm1) H1 → va_S A s.heap H1 locs1 → W p l e room_1 s m #[Value.ref b] below meth c H1 locs1 cells slots Q (F0 m 1479 ls [])) : W p l e room_1 s m #[Value.ref b] below meth c H locs cells slots Q (F0 m 1406 ls []) := by
  have hx := XC.1
  have hb := XC.2.1
  have hts := XC.2.2.2.2.1
  obtain ⟨r, h7, h8⟩ := sim_count hR (xs (i + 1))
  refine lv_aload_n hx hb dL_law_1406 rfl (lv_at hl 1 rfl) ?_
  refine z_arg (k := 1) hx hb hX hbl hbA hS hl (j0 := 0) (j3 := 3) rfl rfl (by omega) hL dL_law_1407 dL_law_1408 dL_law_1409 dL_law_1410 dL_law_1411 ?_
  refine z_goi (w' := wc) XC hS hM (hcm wc wm) (z_runV (As := [.int (xs (i + 1))]) (rest := []) XC gC_ok hC hS (ctX7_count l D c3 ac wc _ (xs (i + 1)) _ h7) (cwV 1 hts gL_law_X7_count rfl rfl rfl (by decide +kernel) ⟨by decide, by decide⟩) (gC0 c3 ac wc) rfl rfl rfl hl.1 rfl (Nat.le_of_ble_eq_true rfl) dL_law_1412 hf) (fun H locs hC hM hS => ?_)
  refine lv_aload_n hx hb dL_law_1415 rfl (lv_at hl 2 rfl) ?_
  refine z_arg (k := 1) hx hb hX hbl hbA hS hl (j0 := 0) (j3 := 3) rfl rfl (by omega) hL dL_law_1416 dL_law_1417 dL_law_1418 dL_law_1419 dL_law_1420 ?_
  refine z_goi (w' := wm) XM hS hC (hmc wm wc) (z_runV (As := [.int (xs (i + 1))]) (rest := [.int r]) XM gM_ok hM hS (ctX8_count l D c3 am wm _ (xs (i + 1)) _ h8) (cwV 1 hts gL_law_X8_count rfl rfl rfl (by decide +kernel) ⟨by decide, by decide⟩) (gM0 c3 am wm) rfl rfl rfl hl.1 rfl (Nat.le_of_ble_eq_true rfl) dL_law_1421 hf) (fun H locs hM hC hS => ?_)
  refine lv_icmp_eq (tgt := 1479) hx hb dL_law_1424 (by decide) (fun _ => ?_) (fun c_9 => absurd rfl c_9)
  exact kk _ _ wc wm hR hC hM hS
set_option maxRecDepth 20000 in
theorem cs_41 {p : Program} {l : Launch} {e : Env} {s : State} {m : MethodId} {below : List Frame} {meth : Method} {c : Code} {H : Heap} {locs : List Loc} {Q : State → Prop} {D : va_G} {c3 : C3} {ac am : Nat → Nat} {A : Nat → Prop} {b L i : Nat} {xs : Nat → Int32} {ls : Array Slot} {wc wm : Mm} {cells slots : Nat} (XC : Cx p s m #[Value.ref b] c code 4 RL wsL_law D c3 (encC c3 ac) gC A) (XM : Cx p s m #[Value.ref b] c code 4 RL wsL_law D c3 (encM c3 am) gM A) (hcm : ∀ v w, Apart (encC c3 ac v) (encM c3 am w)) (hmc : ∀ v w, Apart (encM c3 am v) (encC c3 ac w)) (hX : va_X b L xs s s.heap) (hbl : b < s.heap.size) (hbA : ¬ A b) (hf : cells ≤ room_1.cells ∧ slots ≤ room_1.slots) (hi : i + 6 ≤ L) (hL : L ≤ 384) (hR : Rel wc wm) (hC : va_P D vwCl (encC c3 ac wc) H) (hM : va_P D vwCl (encM c3 am wm) H) (hS : va_S A s.heap H locs) (hl : lv_has ls 4 [(0, .ref b), (1, .ref (ac 0)), (2, .ref (am 0)), (3, .int (nI i))])
    (kk : ∀ (H1 : Heap) (locs1 : List Loc) (wc1 wm1 : Mm), Rel wc1 wm1 → va_P D vwCl (encC c3 ac wc1) H1 → va_P D vwCl (encM c3 am wm1) H1 → va_S A s.heap H1 locs1 → W p l e room_1 s m #[Value.ref b] below meth c H1 locs1 cells slots Q (F0 m 1479 ls [])) : W p l e room_1 s m #[Value.ref b] below meth c H locs cells slots Q (F0 m 1429 ls []) := by
  have hx := XC.1
  have hb := XC.2.1
  have hts := XC.2.2.2.2.1
  obtain ⟨r, h7, h8⟩ := sim_finding hR
  refine lv_aload_n hx hb dL_law_1429 rfl (lv_at hl 1 rfl) ?_
  refine z_goi (w' := wc) XC hS hM (hcm wc wm) (z_runV (As := []) (rest := []) XC gC_ok hC hS (ctX7_finding l D c3 ac wc _ _ h7) (cwV 0 hts gL_law_X7_finding rfl rfl rfl (by decide +kernel) ⟨by decide, by decide⟩) (gC0 c3 ac wc) rfl rfl rfl hl.1 rfl (Nat.le_of_ble_eq_true rfl) dL_law_1430 hf) (fun H locs hC hM hS => ?_)
  refine lv_aload_n hx hb dL_law_1433 rfl (lv_at hl 2 rfl) ?_
  refine z_goi (w' := wm) XM hS hC (hmc wm wc) (z_runV (As := []) (rest := [.int r]) XM gM_ok hM hS (ctX8_finding l D c3 am wm _ _ h8) (cwV 0 hts gL_law_X8_finding rfl rfl rfl (by decide +kernel) ⟨by decide, by decide⟩) (gM0 c3 am wm) rfl rfl rfl hl.1 rfl (Nat.le_of_ble_eq_true rfl) dL_law_1434 hf) (fun H locs hM hC hS => ?_)
  refine lv_icmp_eq (tgt := 1479) hx hb dL_law_1437 (by decide) (fun _ => ?_) (fun c_9 => absurd rfl c_9)
  exact kk _ _ wc wm hR hC hM hS
set_option maxRecDepth 20000 in
theorem cs_42 {p : Program} {l : Launch} {e : Env} {s : State} {m : MethodId} {below : List Frame} {meth : Method} {c : Code} {H : Heap} {locs : List Loc} {Q : State → Prop} {D : va_G} {c3 : C3} {ac am : Nat → Nat} {A : Nat → Prop} {b L i : Nat} {xs : Nat → Int32} {ls : Array Slot} {wc wm : Mm} {cells slots : Nat} (XC : Cx p s m #[Value.ref b] c code 4 RL wsL_law D c3 (encC c3 ac) gC A) (XM : Cx p s m #[Value.ref b] c code 4 RL wsL_law D c3 (encM c3 am) gM A) (hcm : ∀ v w, Apart (encC c3 ac v) (encM c3 am w)) (hmc : ∀ v w, Apart (encM c3 am v) (encC c3 ac w)) (hX : va_X b L xs s s.heap) (hbl : b < s.heap.size) (hbA : ¬ A b) (hf : cells ≤ room_1.cells ∧ slots ≤ room_1.slots) (hi : i + 6 ≤ L) (hL : L ≤ 384) (hR : Rel wc wm) (hC : va_P D vwCl (encC c3 ac wc) H) (hM : va_P D vwCl (encM c3 am wm) H) (hS : va_S A s.heap H locs) (hl : lv_has ls 4 [(0, .ref b), (1, .ref (ac 0)), (2, .ref (am 0)), (3, .int (nI i))])
    (kk : ∀ (H1 : Heap) (locs1 : List Loc) (wc1 wm1 : Mm), Rel wc1 wm1 → va_P D vwCl (encC c3 ac wc1) H1 → va_P D vwCl (encM c3 am wm1) H1 → va_S A s.heap H1 locs1 → W p l e room_1 s m #[Value.ref b] below meth c H1 locs1 cells slots Q (F0 m 1479 ls [])) : W p l e room_1 s m #[Value.ref b] below meth c H locs cells slots Q (F0 m 1442 ls []) := by
  have hx := XC.1
  have hb := XC.2.1
  have hts := XC.2.2.2.2.1
  obtain ⟨r, h7, h8⟩ := sim_findings hR (xs (i + 1))
  refine lv_aload_n hx hb dL_law_1442 rfl (lv_at hl 1 rfl) ?_
  refine z_arg (k := 1) hx hb hX hbl hbA hS hl (j0 := 0) (j3 := 3) rfl rfl (by omega) hL dL_law_1443 dL_law_1444 dL_law_1445 dL_law_1446 dL_law_1447 ?_
  refine z_goi (w' := wc) XC hS hM (hcm wc wm) (z_runV (As := [.int (xs (i + 1))]) (rest := []) XC gC_ok hC hS (ctX7_findings l D c3 ac wc _ (xs (i + 1)) _ h7) (cwV 1 hts gL_law_X7_findings rfl rfl rfl (by decide +kernel) ⟨by decide, by decide⟩) (gC0 c3 ac wc) rfl rfl rfl hl.1 rfl (Nat.le_of_ble_eq_true rfl) dL_law_1448 hf) (fun H locs hC hM hS => ?_)
  refine lv_aload_n hx hb dL_law_1451 rfl (lv_at hl 2 rfl) ?_
  refine z_arg (k := 1) hx hb hX hbl hbA hS hl (j0 := 0) (j3 := 3) rfl rfl (by omega) hL dL_law_1452 dL_law_1453 dL_law_1454 dL_law_1455 dL_law_1456 ?_
  refine z_goi (w' := wm) XM hS hC (hmc wm wc) (z_runV (As := [.int (xs (i + 1))]) (rest := [.int r]) XM gM_ok hM hS (ctX8_findings l D c3 am wm _ (xs (i + 1)) _ h8) (cwV 1 hts gL_law_X8_findings rfl rfl rfl (by decide +kernel) ⟨by decide, by decide⟩) (gM0 c3 am wm) rfl rfl rfl hl.1 rfl (Nat.le_of_ble_eq_true rfl) dL_law_1457 hf) (fun H locs hM hC hS => ?_)
  refine lv_icmp_eq (tgt := 1479) hx hb dL_law_1460 (by decide) (fun _ => ?_) (fun c_9 => absurd rfl c_9)
  exact kk _ _ wc wm hR hC hM hS
set_option maxRecDepth 20000 in
theorem cs_43 {p : Program} {l : Launch} {e : Env} {s : State} {m : MethodId} {below : List Frame} {meth : Method} {c : Code} {H : Heap} {locs : List Loc} {Q : State → Prop} {D : va_G} {c3 : C3} {ac am : Nat → Nat} {A : Nat → Prop} {b L i : Nat} {xs : Nat → Int32} {ls : Array Slot} {wc wm : Mm} {cells slots : Nat} (XC : Cx p s m #[Value.ref b] c code 4 RL wsL_law D c3 (encC c3 ac) gC A) (XM : Cx p s m #[Value.ref b] c code 4 RL wsL_law D c3 (encM c3 am) gM A) (hcm : ∀ v w, Apart (encC c3 ac v) (encM c3 am w)) (hmc : ∀ v w, Apart (encM c3 am v) (encC c3 ac w)) (hX : va_X b L xs s s.heap) (hbl : b < s.heap.size) (hbA : ¬ A b) (hf : cells ≤ room_1.cells ∧ slots ≤ room_1.slots) (hi : i + 6 ≤ L) (hL : L ≤ 384) (hR : Rel wc wm) (hC : va_P D vwCl (encC c3 ac wc) H) (hM : va_P D vwCl (encM c3 am wm) H) (hS : va_S A s.heap H locs) (hl : lv_has ls 4 [(0, .ref b), (1, .ref (ac 0)), (2, .ref (am 0)), (3, .int (nI i))])
    (kk : ∀ (H1 : Heap) (locs1 : List Loc) (wc1 wm1 : Mm), Rel wc1 wm1 → va_P D vwCl (encC c3 ac wc1) H1 → va_P D vwCl (encM c3 am wm1) H1 → va_S A s.heap H1 locs1 → W p l e room_1 s m #[Value.ref b] below meth c H1 locs1 cells slots Q (F0 m 1479 ls [])) : W p l e room_1 s m #[Value.ref b] below meth c H locs cells slots Q (F0 m 1465 ls []) := by
  have hx := XC.1
  have hb := XC.2.1
  have hts := XC.2.2.2.2.1
  obtain ⟨r, h7, h8⟩ := sim_digest hR
  refine lv_aload_n hx hb dL_law_1465 rfl (lv_at hl 1 rfl) ?_
  refine z_gol (w' := wc) XC hS hM (hcm wc wm) (z_runV (As := []) (rest := []) XC gC_ok hC hS (ctX7_digest l D c3 ac wc _ _ h7) (cwV 0 hts gL_law_X7_digest rfl rfl rfl (by decide +kernel) ⟨by decide, by decide⟩) (gC0 c3 ac wc) rfl rfl rfl hl.1 rfl (Nat.le_of_ble_eq_true rfl) dL_law_1466 hf) (fun H locs hC hM hS => ?_)
  refine lv_aload_n hx hb dL_law_1469 rfl (lv_at hl 2 rfl) ?_
  refine z_gol (w' := wm) XM hS hC (hmc wm wc) (z_runV (As := []) (rest := [.long r]) XM gM_ok hM hS (ctX8_digest l D c3 am wm _ _ h8) (cwV 0 hts gL_law_X8_digest rfl rfl rfl (by decide +kernel) ⟨by decide, by decide⟩) (gM0 c3 am wm) rfl rfl rfl hl.1 rfl (Nat.le_of_ble_eq_true rfl) dL_law_1470 hf) (fun H locs hM hC hS => ?_)
  refine W.lcmp hx hb dL_law_1473 ?_
  refine lv_if_eq (tgt := 1479) hx hb dL_law_1474 (by decide) (fun _ => ?_) (fun c_9 => absurd (lg_eq.mpr rfl) c_9)
  exact kk _ _ wc wm hR hC hM hS

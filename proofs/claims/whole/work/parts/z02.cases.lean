/-! the law: its calls, one by one -/
set_option maxRecDepth 20000 in
theorem cs_0 {p : Program} {l : Launch} {e : Env} {s : State} {m : MethodId} {below : List Frame} {meth : Method} {c : Code} {H : Heap} {locs : List Loc} {Q : State → Prop} {D : va_G} {c3 : C3} {ac am : Nat → Nat} {A : Nat → Prop} {b L i : Nat} {xs : Nat → Int32} {ls : Array Slot} {wc wm : Mm} {cells slots : Nat} (XC : Cx p s m #[Value.ref b] c code 4 RL wsL_law D c3 (encC c3 ac) gC A) (XM : Cx p s m #[Value.ref b] c code 4 RL wsL_law D c3 (encM c3 am) gM A) (hcm : ∀ v w, Apart (encC c3 ac v) (encM c3 am w)) (hmc : ∀ v w, Apart (encM c3 am v) (encC c3 ac w)) (hX : va_X b L xs s s.heap) (hbl : b < s.heap.size) (hbA : ¬ A b) (hf : cells ≤ room_1.cells ∧ slots ≤ room_1.slots) (hi : i + 6 ≤ L) (hL : L ≤ 384) (hR : Rel wc wm) (hC : va_P D vwCl (encC c3 ac wc) H) (hM : va_P D vwCl (encM c3 am wm) H) (hS : va_S A s.heap H locs) (hl : lv_has ls 4 [(0, .ref b), (1, .ref (ac 0)), (2, .ref (am 0)), (3, .int (nI i))])
    (kk : ∀ (H1 : Heap) (locs1 : List Loc) (wc1 wm1 : Mm), Rel wc1 wm1 → va_P D vwCl (encC c3 ac wc1) H1 → va_P D vwCl (encM c3 am wm1) H1 → va_S A s.heap H1 locs1 → W p l e room_1 s m #[Value.ref b] below meth c H1 locs1 cells slots Q (F0 m 1479 ls [])) : W p l e room_1 s m #[Value.ref b] below meth c H locs cells slots Q (F0 m 224 ls []) := by
  have hx := XC.1
  have hb := XC.2.1
  have hts := XC.2.2.2.2.1
  obtain ⟨r, wc1, wm1, h7, h8, hR1⟩ := sim_row hR (xs (i + 1)) (xs (i + 2))
  refine lv_aload_n hx hb dL_law_224 rfl (lv_at hl 1 rfl) ?_
  refine z_arg (k := 1) hx hb hX hbl hbA hS hl (j0 := 0) (j3 := 3) rfl rfl (by omega) hL dL_law_225 dL_law_226 dL_law_227 dL_law_228 dL_law_229 ?_
  refine z_arg (k := 2) hx hb hX hbl hbA hS hl (j0 := 0) (j3 := 3) rfl rfl (by omega) hL dL_law_230 dL_law_231 dL_law_232 dL_law_233 dL_law_234 ?_
  refine z_goi (w' := wc1) XC hS hM (hcm wc wm) (z_runV (As := [.int (xs (i + 1)), .int (xs (i + 2))]) (rest := []) XC gC_ok hC hS (ctX7_row l D c3 ac wc _ (xs (i + 1)) (xs (i + 2)) _ _ h7) (cwV 2 hts gL_law_X7_row rfl rfl rfl (by decide +kernel) ⟨by decide, by decide⟩) (gC0 c3 ac wc) rfl rfl rfl hl.1 rfl (Nat.le_of_ble_eq_true rfl) dL_law_235 hf) (fun H locs hC hM hS => ?_)
  refine lv_aload_n hx hb dL_law_238 rfl (lv_at hl 2 rfl) ?_
  refine z_arg (k := 1) hx hb hX hbl hbA hS hl (j0 := 0) (j3 := 3) rfl rfl (by omega) hL dL_law_239 dL_law_240 dL_law_241 dL_law_242 dL_law_243 ?_
  refine z_arg (k := 2) hx hb hX hbl hbA hS hl (j0 := 0) (j3 := 3) rfl rfl (by omega) hL dL_law_244 dL_law_245 dL_law_246 dL_law_247 dL_law_248 ?_
  refine z_goi (w' := wm1) XM hS hC (hmc wm wc1) (z_runV (As := [.int (xs (i + 1)), .int (xs (i + 2))]) (rest := [.int r]) XM gM_ok hM hS (ctX8_row l D c3 am wm _ (xs (i + 1)) (xs (i + 2)) _ _ h8) (cwV 2 hts gL_law_X8_row rfl rfl rfl (by decide +kernel) ⟨by decide, by decide⟩) (gM0 c3 am wm) rfl rfl rfl hl.1 rfl (Nat.le_of_ble_eq_true rfl) dL_law_249 hf) (fun H locs hM hC hS => ?_)
  refine lv_icmp_eq (tgt := 1479) hx hb dL_law_252 (by decide) (fun _ => ?_) (fun c_9 => absurd rfl c_9)
  exact kk _ _ wc1 wm1 hR1 hC hM hS
set_option maxRecDepth 20000 in
theorem cs_1 {p : Program} {l : Launch} {e : Env} {s : State} {m : MethodId} {below : List Frame} {meth : Method} {c : Code} {H : Heap} {locs : List Loc} {Q : State → Prop} {D : va_G} {c3 : C3} {ac am : Nat → Nat} {A : Nat → Prop} {b L i : Nat} {xs : Nat → Int32} {ls : Array Slot} {wc wm : Mm} {cells slots : Nat} (XC : Cx p s m #[Value.ref b] c code 4 RL wsL_law D c3 (encC c3 ac) gC A) (XM : Cx p s m #[Value.ref b] c code 4 RL wsL_law D c3 (encM c3 am) gM A) (hcm : ∀ v w, Apart (encC c3 ac v) (encM c3 am w)) (hmc : ∀ v w, Apart (encM c3 am v) (encC c3 ac w)) (hX : va_X b L xs s s.heap) (hbl : b < s.heap.size) (hbA : ¬ A b) (hf : cells ≤ room_1.cells ∧ slots ≤ room_1.slots) (hi : i + 6 ≤ L) (hL : L ≤ 384) (hR : Rel wc wm) (hC : va_P D vwCl (encC c3 ac wc) H) (hM : va_P D vwCl (encM c3 am wm) H) (hS : va_S A s.heap H locs) (hl : lv_has ls 4 [(0, .ref b), (1, .ref (ac 0)), (2, .ref (am 0)), (3, .int (nI i))])
    (kk : ∀ (H1 : Heap) (locs1 : List Loc) (wc1 wm1 : Mm), Rel wc1 wm1 → va_P D vwCl (encC c3 ac wc1) H1 → va_P D vwCl (encM c3 am wm1) H1 → va_S A s.heap H1 locs1 → W p l e room_1 s m #[Value.ref b] below meth c H1 locs1 cells slots Q (F0 m 1479 ls [])) : W p l e room_1 s m #[Value.ref b] below meth c H locs cells slots Q (F0 m 257 ls []) := by
  have hx := XC.1
  have hb := XC.2.1
  have hts := XC.2.2.2.2.1
  obtain ⟨r, wc1, wm1, h7, h8, hR1⟩ := sim_lay hR (xs (i + 1)) (xs (i + 2)) (xs (i + 3))
  refine lv_aload_n hx hb dL_law_257 rfl (lv_at hl 1 rfl) ?_
  refine z_arg (k := 1) hx hb hX hbl hbA hS hl (j0 := 0) (j3 := 3) rfl rfl (by omega) hL dL_law_258 dL_law_259 dL_law_260 dL_law_261 dL_law_262 ?_
  refine z_arg (k := 2) hx hb hX hbl hbA hS hl (j0 := 0) (j3 := 3) rfl rfl (by omega) hL dL_law_263 dL_law_264 dL_law_265 dL_law_266 dL_law_267 ?_
  refine z_arg (k := 3) hx hb hX hbl hbA hS hl (j0 := 0) (j3 := 3) rfl rfl (by omega) hL dL_law_268 dL_law_269 dL_law_270 dL_law_271 dL_law_272 ?_
  refine z_goi (w' := wc1) XC hS hM (hcm wc wm) (z_runV (As := [.int (xs (i + 1)), .int (xs (i + 2)), .int (xs (i + 3))]) (rest := []) XC gC_ok hC hS (ctX7_lay l D c3 ac wc _ (xs (i + 1)) (xs (i + 2)) (xs (i + 3)) _ _ h7) (cwV 3 hts gL_law_X7_lay rfl rfl rfl (by decide +kernel) ⟨by decide, by decide⟩) (gC0 c3 ac wc) rfl rfl rfl hl.1 rfl (Nat.le_of_ble_eq_true rfl) dL_law_273 hf) (fun H locs hC hM hS => ?_)
  refine lv_aload_n hx hb dL_law_276 rfl (lv_at hl 2 rfl) ?_
  refine z_arg (k := 1) hx hb hX hbl hbA hS hl (j0 := 0) (j3 := 3) rfl rfl (by omega) hL dL_law_277 dL_law_278 dL_law_279 dL_law_280 dL_law_281 ?_
  refine z_arg (k := 2) hx hb hX hbl hbA hS hl (j0 := 0) (j3 := 3) rfl rfl (by omega) hL dL_law_282 dL_law_283 dL_law_284 dL_law_285 dL_law_286 ?_
  refine z_arg (k := 3) hx hb hX hbl hbA hS hl (j0 := 0) (j3 := 3) rfl rfl (by omega) hL dL_law_287 dL_law_288 dL_law_289 dL_law_290 dL_law_291 ?_
  refine z_goi (w' := wm1) XM hS hC (hmc wm wc1) (z_runV (As := [.int (xs (i + 1)), .int (xs (i + 2)), .int (xs (i + 3))]) (rest := [.int r]) XM gM_ok hM hS (ctX8_lay l D c3 am wm _ (xs (i + 1)) (xs (i + 2)) (xs (i + 3)) _ _ h8) (cwV 3 hts gL_law_X8_lay rfl rfl rfl (by decide +kernel) ⟨by decide, by decide⟩) (gM0 c3 am wm) rfl rfl rfl hl.1 rfl (Nat.le_of_ble_eq_true rfl) dL_law_292 hf) (fun H locs hM hC hS => ?_)
  refine lv_icmp_eq (tgt := 1479) hx hb dL_law_295 (by decide) (fun _ => ?_) (fun c_9 => absurd rfl c_9)
  exact kk _ _ wc1 wm1 hR1 hC hM hS
set_option maxRecDepth 20000 in
theorem cs_2 {p : Program} {l : Launch} {e : Env} {s : State} {m : MethodId} {below : List Frame} {meth : Method} {c : Code} {H : Heap} {locs : List Loc} {Q : State → Prop} {D : va_G} {c3 : C3} {ac am : Nat → Nat} {A : Nat → Prop} {b L i : Nat} {xs : Nat → Int32} {ls : Array Slot} {wc wm : Mm} {cells slots : Nat} (XC : Cx p s m #[Value.ref b] c code 4 RL wsL_law D c3 (encC c3 ac) gC A) (XM : Cx p s m #[Value.ref b] c code 4 RL wsL_law D c3 (encM c3 am) gM A) (hcm : ∀ v w, Apart (encC c3 ac v) (encM c3 am w)) (hmc : ∀ v w, Apart (encM c3 am v) (encC c3 ac w)) (hX : va_X b L xs s s.heap) (hbl : b < s.heap.size) (hbA : ¬ A b) (hf : cells ≤ room_1.cells ∧ slots ≤ room_1.slots) (hi : i + 6 ≤ L) (hL : L ≤ 384) (hR : Rel wc wm) (hC : va_P D vwCl (encC c3 ac wc) H) (hM : va_P D vwCl (encM c3 am wm) H) (hS : va_S A s.heap H locs) (hl : lv_has ls 4 [(0, .ref b), (1, .ref (ac 0)), (2, .ref (am 0)), (3, .int (nI i))])
    (kk : ∀ (H1 : Heap) (locs1 : List Loc) (wc1 wm1 : Mm), Rel wc1 wm1 → va_P D vwCl (encC c3 ac wc1) H1 → va_P D vwCl (encM c3 am wm1) H1 → va_S A s.heap H1 locs1 → W p l e room_1 s m #[Value.ref b] below meth c H1 locs1 cells slots Q (F0 m 1479 ls [])) : W p l e room_1 s m #[Value.ref b] below meth c H locs cells slots Q (F0 m 300 ls []) := by
  have hx := XC.1
  have hb := XC.2.1
  have hts := XC.2.2.2.2.1
  obtain ⟨r, wc1, wm1, h7, h8, hR1⟩ := sim_at hR (xs (i + 1)) (xs (i + 2))
  refine lv_aload_n hx hb dL_law_300 rfl (lv_at hl 1 rfl) ?_
  refine z_arg (k := 1) hx hb hX hbl hbA hS hl (j0 := 0) (j3 := 3) rfl rfl (by omega) hL dL_law_301 dL_law_302 dL_law_303 dL_law_304 dL_law_305 ?_
  refine z_arg (k := 2) hx hb hX hbl hbA hS hl (j0 := 0) (j3 := 3) rfl rfl (by omega) hL dL_law_306 dL_law_307 dL_law_308 dL_law_309 dL_law_310 ?_
  refine z_goi (w' := wc1) XC hS hM (hcm wc wm) (z_runV (As := [.int (xs (i + 1)), .int (xs (i + 2))]) (rest := []) XC gC_ok hC hS (ctX7_at l D c3 ac wc _ (xs (i + 1)) (xs (i + 2)) _ _ h7) (cwV 2 hts gL_law_X7_at rfl rfl rfl (by decide +kernel) ⟨by decide, by decide⟩) (gC0 c3 ac wc) rfl rfl rfl hl.1 rfl (Nat.le_of_ble_eq_true rfl) dL_law_311 hf) (fun H locs hC hM hS => ?_)
  refine lv_aload_n hx hb dL_law_314 rfl (lv_at hl 2 rfl) ?_
  refine z_arg (k := 1) hx hb hX hbl hbA hS hl (j0 := 0) (j3 := 3) rfl rfl (by omega) hL dL_law_315 dL_law_316 dL_law_317 dL_law_318 dL_law_319 ?_
  refine z_arg (k := 2) hx hb hX hbl hbA hS hl (j0 := 0) (j3 := 3) rfl rfl (by omega) hL dL_law_320 dL_law_321 dL_law_322 dL_law_323 dL_law_324 ?_
  refine z_goi (w' := wm1) XM hS hC (hmc wm wc1) (z_runV (As := [.int (xs (i + 1)), .int (xs (i + 2))]) (rest := [.int r]) XM gM_ok hM hS (ctX8_at l D c3 am wm _ (xs (i + 1)) (xs (i + 2)) _ _ h8) (cwV 2 hts gL_law_X8_at rfl rfl rfl (by decide +kernel) ⟨by decide, by decide⟩) (gM0 c3 am wm) rfl rfl rfl hl.1 rfl (Nat.le_of_ble_eq_true rfl) dL_law_325 hf) (fun H locs hM hC hS => ?_)
  refine lv_icmp_eq (tgt := 1479) hx hb dL_law_328 (by decide) (fun _ => ?_) (fun c_9 => absurd rfl c_9)
  exact kk _ _ wc1 wm1 hR1 hC hM hS
set_option maxRecDepth 20000 in
theorem cs_3 {p : Program} {l : Launch} {e : Env} {s : State} {m : MethodId} {below : List Frame} {meth : Method} {c : Code} {H : Heap} {locs : List Loc} {Q : State → Prop} {D : va_G} {c3 : C3} {ac am : Nat → Nat} {A : Nat → Prop} {b L i : Nat} {xs : Nat → Int32} {ls : Array Slot} {wc wm : Mm} {cells slots : Nat} (XC : Cx p s m #[Value.ref b] c code 4 RL wsL_law D c3 (encC c3 ac) gC A) (XM : Cx p s m #[Value.ref b] c code 4 RL wsL_law D c3 (encM c3 am) gM A) (hcm : ∀ v w, Apart (encC c3 ac v) (encM c3 am w)) (hmc : ∀ v w, Apart (encM c3 am v) (encC c3 ac w)) (hX : va_X b L xs s s.heap) (hbl : b < s.heap.size) (hbA : ¬ A b) (hf : cells ≤ room_1.cells ∧ slots ≤ room_1.slots) (hi : i + 6 ≤ L) (hL : L ≤ 384) (hR : Rel wc wm) (hC : va_P D vwCl (encC c3 ac wc) H) (hM : va_P D vwCl (encM c3 am wm) H) (hS : va_S A s.heap H locs) (hl : lv_has ls 4 [(0, .ref b), (1, .ref (ac 0)), (2, .ref (am 0)), (3, .int (nI i))])
    (kk : ∀ (H1 : Heap) (locs1 : List Loc) (wc1 wm1 : Mm), Rel wc1 wm1 → va_P D vwCl (encC c3 ac wc1) H1 → va_P D vwCl (encM c3 am wm1) H1 → va_S A s.heap H1 locs1 → W p l e room_1 s m #[Value.ref b] below meth c H1 locs1 cells slots Q (F0 m 1479 ls [])) : W p l e room_1 s m #[Value.ref b] below meth c H locs cells slots Q (F0 m 333 ls []) := by
  have hx := XC.1
  have hb := XC.2.1
  have hts := XC.2.2.2.2.1
  obtain ⟨r, wc1, wm1, h7, h8, hR1⟩ := sim_tear hR (xs (i + 1))
  refine lv_aload_n hx hb dL_law_333 rfl (lv_at hl 1 rfl) ?_
  refine z_arg (k := 1) hx hb hX hbl hbA hS hl (j0 := 0) (j3 := 3) rfl rfl (by omega) hL dL_law_334 dL_law_335 dL_law_336 dL_law_337 dL_law_338 ?_
  refine z_goi (w' := wc1) XC hS hM (hcm wc wm) (z_runV (As := [.int (xs (i + 1))]) (rest := []) XC gC_ok hC hS (ctX7_tear l D c3 ac wc _ (xs (i + 1)) _ _ h7) (cwV 1 hts gL_law_X7_tear rfl rfl rfl (by decide +kernel) ⟨by decide, by decide⟩) (gC0 c3 ac wc) rfl rfl rfl hl.1 rfl (Nat.le_of_ble_eq_true rfl) dL_law_339 hf) (fun H locs hC hM hS => ?_)
  refine lv_aload_n hx hb dL_law_342 rfl (lv_at hl 2 rfl) ?_
  refine z_arg (k := 1) hx hb hX hbl hbA hS hl (j0 := 0) (j3 := 3) rfl rfl (by omega) hL dL_law_343 dL_law_344 dL_law_345 dL_law_346 dL_law_347 ?_
  refine z_goi (w' := wm1) XM hS hC (hmc wm wc1) (z_runV (As := [.int (xs (i + 1))]) (rest := [.int r]) XM gM_ok hM hS (ctX8_tear l D c3 am wm _ (xs (i + 1)) _ _ h8) (cwV 1 hts gL_law_X8_tear rfl rfl rfl (by decide +kernel) ⟨by decide, by decide⟩) (gM0 c3 am wm) rfl rfl rfl hl.1 rfl (Nat.le_of_ble_eq_true rfl) dL_law_348 hf) (fun H locs hM hC hS => ?_)
  refine lv_icmp_eq (tgt := 1479) hx hb dL_law_351 (by decide) (fun _ => ?_) (fun c_9 => absurd rfl c_9)
  exact kk _ _ wc1 wm1 hR1 hC hM hS
set_option maxRecDepth 20000 in
theorem cs_4 {p : Program} {l : Launch} {e : Env} {s : State} {m : MethodId} {below : List Frame} {meth : Method} {c : Code} {H : Heap} {locs : List Loc} {Q : State → Prop} {D : va_G} {c3 : C3} {ac am : Nat → Nat} {A : Nat → Prop} {b L i : Nat} {xs : Nat → Int32} {ls : Array Slot} {wc wm : Mm} {cells slots : Nat} (XC : Cx p s m #[Value.ref b] c code 4 RL wsL_law D c3 (encC c3 ac) gC A) (XM : Cx p s m #[Value.ref b] c code 4 RL wsL_law D c3 (encM c3 am) gM A) (hcm : ∀ v w, Apart (encC c3 ac v) (encM c3 am w)) (hmc : ∀ v w, Apart (encM c3 am v) (encC c3 ac w)) (hX : va_X b L xs s s.heap) (hbl : b < s.heap.size) (hbA : ¬ A b) (hf : cells ≤ room_1.cells ∧ slots ≤ room_1.slots) (hi : i + 6 ≤ L) (hL : L ≤ 384) (hR : Rel wc wm) (hC : va_P D vwCl (encC c3 ac wc) H) (hM : va_P D vwCl (encM c3 am wm) H) (hS : va_S A s.heap H locs) (hl : lv_has ls 4 [(0, .ref b), (1, .ref (ac 0)), (2, .ref (am 0)), (3, .int (nI i))])
    (kk : ∀ (H1 : Heap) (locs1 : List Loc) (wc1 wm1 : Mm), Rel wc1 wm1 → va_P D vwCl (encC c3 ac wc1) H1 → va_P D vwCl (encM c3 am wm1) H1 → va_S A s.heap H1 locs1 → W p l e room_1 s m #[Value.ref b] below meth c H1 locs1 cells slots Q (F0 m 1479 ls [])) : W p l e room_1 s m #[Value.ref b] below meth c H locs cells slots Q (F0 m 356 ls []) := by
  have hx := XC.1
  have hb := XC.2.1
  have hts := XC.2.2.2.2.1
  obtain ⟨r, wc1, wm1, h7, h8, hR1⟩ := sim_copy hR (xs (i + 1)) (xs (i + 2)) (xs (i + 3)) (xs (i + 4)) (xs (i + 5))
  refine lv_aload_n hx hb dL_law_356 rfl (lv_at hl 1 rfl) ?_
  refine z_arg (k := 1) hx hb hX hbl hbA hS hl (j0 := 0) (j3 := 3) rfl rfl (by omega) hL dL_law_357 dL_law_358 dL_law_359 dL_law_360 dL_law_361 ?_
  refine z_arg (k := 2) hx hb hX hbl hbA hS hl (j0 := 0) (j3 := 3) rfl rfl (by omega) hL dL_law_362 dL_law_363 dL_law_364 dL_law_365 dL_law_366 ?_
  refine z_arg (k := 3) hx hb hX hbl hbA hS hl (j0 := 0) (j3 := 3) rfl rfl (by omega) hL dL_law_367 dL_law_368 dL_law_369 dL_law_370 dL_law_371 ?_
  refine z_arg (k := 4) hx hb hX hbl hbA hS hl (j0 := 0) (j3 := 3) rfl rfl (by omega) hL dL_law_372 dL_law_373 dL_law_374 dL_law_375 dL_law_376 ?_
  refine z_arg (k := 5) hx hb hX hbl hbA hS hl (j0 := 0) (j3 := 3) rfl rfl (by omega) hL dL_law_377 dL_law_378 dL_law_379 dL_law_380 dL_law_381 ?_
  refine z_goi (w' := wc1) XC hS hM (hcm wc wm) (z_runV (As := [.int (xs (i + 1)), .int (xs (i + 2)), .int (xs (i + 3)), .int (xs (i + 4)), .int (xs (i + 5))]) (rest := []) XC gC_ok hC hS (ctX7_copy l D c3 ac wc _ (xs (i + 1)) (xs (i + 2)) (xs (i + 3)) (xs (i + 4)) (xs (i + 5)) _ _ h7) (cwV 5 hts gL_law_X7_copy rfl rfl rfl (by decide +kernel) ⟨by decide, by decide⟩) (gC0 c3 ac wc) rfl rfl rfl hl.1 rfl (Nat.le_of_ble_eq_true rfl) dL_law_382 hf) (fun H locs hC hM hS => ?_)
  refine lv_aload_n hx hb dL_law_385 rfl (lv_at hl 2 rfl) ?_
  refine z_arg (k := 1) hx hb hX hbl hbA hS hl (j0 := 0) (j3 := 3) rfl rfl (by omega) hL dL_law_386 dL_law_387 dL_law_388 dL_law_389 dL_law_390 ?_
  refine z_arg (k := 2) hx hb hX hbl hbA hS hl (j0 := 0) (j3 := 3) rfl rfl (by omega) hL dL_law_391 dL_law_392 dL_law_393 dL_law_394 dL_law_395 ?_
  refine z_arg (k := 3) hx hb hX hbl hbA hS hl (j0 := 0) (j3 := 3) rfl rfl (by omega) hL dL_law_396 dL_law_397 dL_law_398 dL_law_399 dL_law_400 ?_
  refine z_arg (k := 4) hx hb hX hbl hbA hS hl (j0 := 0) (j3 := 3) rfl rfl (by omega) hL dL_law_401 dL_law_402 dL_law_403 dL_law_404 dL_law_405 ?_
  refine z_arg (k := 5) hx hb hX hbl hbA hS hl (j0 := 0) (j3 := 3) rfl rfl (by omega) hL dL_law_406 dL_law_407 dL_law_408 dL_law_409 dL_law_410 ?_
  refine z_goi (w' := wm1) XM hS hC (hmc wm wc1) (z_runV (As := [.int (xs (i + 1)), .int (xs (i + 2)), .int (xs (i + 3)), .int (xs (i + 4)), .int (xs (i + 5))]) (rest := [.int r]) XM gM_ok hM hS (ctX8_copy l D c3 am wm _ (xs (i + 1)) (xs (i + 2)) (xs (i + 3)) (xs (i + 4)) (xs (i + 5)) _ _ h8) (cwV 5 hts gL_law_X8_copy rfl rfl rfl (by decide +kernel) ⟨by decide, by decide⟩) (gM0 c3 am wm) rfl rfl rfl hl.1 rfl (Nat.le_of_ble_eq_true rfl) dL_law_411 hf) (fun H locs hM hC hS => ?_)
  refine lv_icmp_eq (tgt := 1479) hx hb dL_law_414 (by decide) (fun _ => ?_) (fun c_9 => absurd rfl c_9)
  exact kk _ _ wc1 wm1 hR1 hC hM hS
set_option maxRecDepth 20000 in
theorem cs_5 {p : Program} {l : Launch} {e : Env} {s : State} {m : MethodId} {below : List Frame} {meth : Method} {c : Code} {H : Heap} {locs : List Loc} {Q : State → Prop} {D : va_G} {c3 : C3} {ac am : Nat → Nat} {A : Nat → Prop} {b L i : Nat} {xs : Nat → Int32} {ls : Array Slot} {wc wm : Mm} {cells slots : Nat} (XC : Cx p s m #[Value.ref b] c code 4 RL wsL_law D c3 (encC c3 ac) gC A) (XM : Cx p s m #[Value.ref b] c code 4 RL wsL_law D c3 (encM c3 am) gM A) (hcm : ∀ v w, Apart (encC c3 ac v) (encM c3 am w)) (hmc : ∀ v w, Apart (encM c3 am v) (encC c3 ac w)) (hX : va_X b L xs s s.heap) (hbl : b < s.heap.size) (hbA : ¬ A b) (hf : cells ≤ room_1.cells ∧ slots ≤ room_1.slots) (hi : i + 6 ≤ L) (hL : L ≤ 384) (hR : Rel wc wm) (hC : va_P D vwCl (encC c3 ac wc) H) (hM : va_P D vwCl (encM c3 am wm) H) (hS : va_S A s.heap H locs) (hl : lv_has ls 4 [(0, .ref b), (1, .ref (ac 0)), (2, .ref (am 0)), (3, .int (nI i))])
    (kk : ∀ (H1 : Heap) (locs1 : List Loc) (wc1 wm1 : Mm), Rel wc1 wm1 → va_P D vwCl (encC c3 ac wc1) H1 → va_P D vwCl (encM c3 am wm1) H1 → va_S A s.heap H1 locs1 → W p l e room_1 s m #[Value.ref b] below meth c H1 locs1 cells slots Q (F0 m 1479 ls [])) : W p l e room_1 s m #[Value.ref b] below meth c H locs cells slots Q (F0 m 419 ls []) := by
  have hx := XC.1
  have hb := XC.2.1
  have hts := XC.2.2.2.2.1
  obtain ⟨r, wc1, wm1, h7, h8, hR1⟩ := sim_mean hR (xs (i + 1))
  refine lv_aload_n hx hb dL_law_419 rfl (lv_at hl 1 rfl) ?_
  refine z_arg (k := 1) hx hb hX hbl hbA hS hl (j0 := 0) (j3 := 3) rfl rfl (by omega) hL dL_law_420 dL_law_421 dL_law_422 dL_law_423 dL_law_424 ?_
  refine z_goi (w' := wc1) XC hS hM (hcm wc wm) (z_runV (As := [.int (xs (i + 1))]) (rest := []) XC gC_ok hC hS (ctX7_mean l D c3 ac wc _ (xs (i + 1)) _ _ h7) (cwV 1 hts gL_law_X7_mean rfl rfl rfl (by decide +kernel) ⟨by decide, by decide⟩) (gC0 c3 ac wc) rfl rfl rfl hl.1 rfl (Nat.le_of_ble_eq_true rfl) dL_law_425 hf) (fun H locs hC hM hS => ?_)
  refine lv_aload_n hx hb dL_law_428 rfl (lv_at hl 2 rfl) ?_
  refine z_arg (k := 1) hx hb hX hbl hbA hS hl (j0 := 0) (j3 := 3) rfl rfl (by omega) hL dL_law_429 dL_law_430 dL_law_431 dL_law_432 dL_law_433 ?_
  refine z_goi (w' := wm1) XM hS hC (hmc wm wc1) (z_runV (As := [.int (xs (i + 1))]) (rest := [.int r]) XM gM_ok hM hS (ctX8_mean l D c3 am wm _ (xs (i + 1)) _ _ h8) (cwV 1 hts gL_law_X8_mean rfl rfl rfl (by decide +kernel) ⟨by decide, by decide⟩) (gM0 c3 am wm) rfl rfl rfl hl.1 rfl (Nat.le_of_ble_eq_true rfl) dL_law_434 hf) (fun H locs hM hC hS => ?_)
  refine lv_icmp_eq (tgt := 1479) hx hb dL_law_437 (by decide) (fun _ => ?_) (fun c_9 => absurd rfl c_9)
  exact kk _ _ wc1 wm1 hR1 hC hM hS
set_option maxRecDepth 20000 in
theorem cs_6 {p : Program} {l : Launch} {e : Env} {s : State} {m : MethodId} {below : List Frame} {meth : Method} {c : Code} {H : Heap} {locs : List Loc} {Q : State → Prop} {D : va_G} {c3 : C3} {ac am : Nat → Nat} {A : Nat → Prop} {b L i : Nat} {xs : Nat → Int32} {ls : Array Slot} {wc wm : Mm} {cells slots : Nat} (XC : Cx p s m #[Value.ref b] c code 4 RL wsL_law D c3 (encC c3 ac) gC A) (XM : Cx p s m #[Value.ref b] c code 4 RL wsL_law D c3 (encM c3 am) gM A) (hcm : ∀ v w, Apart (encC c3 ac v) (encM c3 am w)) (hmc : ∀ v w, Apart (encM c3 am v) (encC c3 ac w)) (hX : va_X b L xs s s.heap) (hbl : b < s.heap.size) (hbA : ¬ A b) (hf : cells ≤ room_1.cells ∧ slots ≤ room_1.slots) (hi : i + 6 ≤ L) (hL : L ≤ 384) (hR : Rel wc wm) (hC : va_P D vwCl (encC c3 ac wc) H) (hM : va_P D vwCl (encM c3 am wm) H) (hS : va_S A s.heap H locs) (hl : lv_has ls 4 [(0, .ref b), (1, .ref (ac 0)), (2, .ref (am 0)), (3, .int (nI i))])
    (kk : ∀ (H1 : Heap) (locs1 : List Loc) (wc1 wm1 : Mm), Rel wc1 wm1 → va_P D vwCl (encC c3 ac wc1) H1 → va_P D vwCl (encM c3 am wm1) H1 → va_S A s.heap H1 locs1 → W p l e room_1 s m #[Value.ref b] below meth c H1 locs1 cells slots Q (F0 m 1479 ls [])) : W p l e room_1 s m #[Value.ref b] below meth c H locs cells slots Q (F0 m 442 ls []) := by
  have hx := XC.1
  have hb := XC.2.1
  have hts := XC.2.2.2.2.1
  obtain ⟨r, wc1, wm1, h7, h8, hR1⟩ := sim_text hR (xs (i + 1)) (xs (i + 2))
  refine lv_aload_n hx hb dL_law_442 rfl (lv_at hl 1 rfl) ?_
  refine z_arg (k := 1) hx hb hX hbl hbA hS hl (j0 := 0) (j3 := 3) rfl rfl (by omega) hL dL_law_443 dL_law_444 dL_law_445 dL_law_446 dL_law_447 ?_
  refine z_arg (k := 2) hx hb hX hbl hbA hS hl (j0 := 0) (j3 := 3) rfl rfl (by omega) hL dL_law_448 dL_law_449 dL_law_450 dL_law_451 dL_law_452 ?_
  refine z_goi (w' := wc1) XC hS hM (hcm wc wm) (z_runV (As := [.int (xs (i + 1)), .int (xs (i + 2))]) (rest := []) XC gC_ok hC hS (ctX7_text l D c3 ac wc _ (xs (i + 1)) (xs (i + 2)) _ _ h7) (cwV 2 hts gL_law_X7_text rfl rfl rfl (by decide +kernel) ⟨by decide, by decide⟩) (gC0 c3 ac wc) rfl rfl rfl hl.1 rfl (Nat.le_of_ble_eq_true rfl) dL_law_453 hf) (fun H locs hC hM hS => ?_)
  refine lv_aload_n hx hb dL_law_456 rfl (lv_at hl 2 rfl) ?_
  refine z_arg (k := 1) hx hb hX hbl hbA hS hl (j0 := 0) (j3 := 3) rfl rfl (by omega) hL dL_law_457 dL_law_458 dL_law_459 dL_law_460 dL_law_461 ?_
  refine z_arg (k := 2) hx hb hX hbl hbA hS hl (j0 := 0) (j3 := 3) rfl rfl (by omega) hL dL_law_462 dL_law_463 dL_law_464 dL_law_465 dL_law_466 ?_
  refine z_goi (w' := wm1) XM hS hC (hmc wm wc1) (z_runV (As := [.int (xs (i + 1)), .int (xs (i + 2))]) (rest := [.int r]) XM gM_ok hM hS (ctX8_text l D c3 am wm _ (xs (i + 1)) (xs (i + 2)) _ _ h8) (cwV 2 hts gL_law_X8_text rfl rfl rfl (by decide +kernel) ⟨by decide, by decide⟩) (gM0 c3 am wm) rfl rfl rfl hl.1 rfl (Nat.le_of_ble_eq_true rfl) dL_law_467 hf) (fun H locs hM hC hS => ?_)
  refine lv_icmp_eq (tgt := 1479) hx hb dL_law_470 (by decide) (fun _ => ?_) (fun c_9 => absurd rfl c_9)
  exact kk _ _ wc1 wm1 hR1 hC hM hS
set_option maxRecDepth 20000 in
theorem cs_7 {p : Program} {l : Launch} {e : Env} {s : State} {m : MethodId} {below : List Frame} {meth : Method} {c : Code} {H : Heap} {locs : List Loc} {Q : State → Prop} {D : va_G} {c3 : C3} {ac am : Nat → Nat} {A : Nat → Prop} {b L i : Nat} {xs : Nat → Int32} {ls : Array Slot} {wc wm : Mm} {cells slots : Nat} (XC : Cx p s m #[Value.ref b] c code 4 RL wsL_law D c3 (encC c3 ac) gC A) (XM : Cx p s m #[Value.ref b] c code 4 RL wsL_law D c3 (encM c3 am) gM A) (hcm : ∀ v w, Apart (encC c3 ac v) (encM c3 am w)) (hmc : ∀ v w, Apart (encM c3 am v) (encC c3 ac w)) (hX : va_X b L xs s s.heap) (hbl : b < s.heap.size) (hbA : ¬ A b) (hf : cells ≤ room_1.cells ∧ slots ≤ room_1.slots) (hi : i + 6 ≤ L) (hL : L ≤ 384) (hR : Rel wc wm) (hC : va_P D vwCl (encC c3 ac wc) H) (hM : va_P D vwCl (encM c3 am wm) H) (hS : va_S A s.heap H locs) (hl : lv_has ls 4 [(0, .ref b), (1, .ref (ac 0)), (2, .ref (am 0)), (3, .int (nI i))])
    (kk : ∀ (H1 : Heap) (locs1 : List Loc) (wc1 wm1 : Mm), Rel wc1 wm1 → va_P D vwCl (encC c3 ac wc1) H1 → va_P D vwCl (encM c3 am wm1) H1 → va_S A s.heap H1 locs1 → W p l e room_1 s m #[Value.ref b] below meth c H1 locs1 cells slots Q (F0 m 1479 ls [])) : W p l e room_1 s m #[Value.ref b] below meth c H locs cells slots Q (F0 m 475 ls []) := by
  have hx := XC.1
  have hb := XC.2.1
  have hts := XC.2.2.2.2.1
  obtain ⟨r, wc1, wm1, h7, h8, hR1⟩ := sim_put hR (xs (i + 1)) (xs (i + 2)) (xs (i + 3))
  refine lv_aload_n hx hb dL_law_475 rfl (lv_at hl 1 rfl) ?_
  refine z_arg (k := 1) hx hb hX hbl hbA hS hl (j0 := 0) (j3 := 3) rfl rfl (by omega) hL dL_law_476 dL_law_477 dL_law_478 dL_law_479 dL_law_480 ?_
  refine z_arg (k := 2) hx hb hX hbl hbA hS hl (j0 := 0) (j3 := 3) rfl rfl (by omega) hL dL_law_481 dL_law_482 dL_law_483 dL_law_484 dL_law_485 ?_
  refine z_arg (k := 3) hx hb hX hbl hbA hS hl (j0 := 0) (j3 := 3) rfl rfl (by omega) hL dL_law_486 dL_law_487 dL_law_488 dL_law_489 dL_law_490 ?_
  refine z_goi (w' := wc1) XC hS hM (hcm wc wm) (z_runV (As := [.int (xs (i + 1)), .int (xs (i + 2)), .int (xs (i + 3))]) (rest := []) XC gC_ok hC hS (ctX7_put l D c3 ac wc _ (xs (i + 1)) (xs (i + 2)) (xs (i + 3)) _ _ h7) (cwV 3 hts gL_law_X7_put rfl rfl rfl (by decide +kernel) ⟨by decide, by decide⟩) (gC0 c3 ac wc) rfl rfl rfl hl.1 rfl (Nat.le_of_ble_eq_true rfl) dL_law_491 hf) (fun H locs hC hM hS => ?_)
  refine lv_aload_n hx hb dL_law_494 rfl (lv_at hl 2 rfl) ?_
  refine z_arg (k := 1) hx hb hX hbl hbA hS hl (j0 := 0) (j3 := 3) rfl rfl (by omega) hL dL_law_495 dL_law_496 dL_law_497 dL_law_498 dL_law_499 ?_
  refine z_arg (k := 2) hx hb hX hbl hbA hS hl (j0 := 0) (j3 := 3) rfl rfl (by omega) hL dL_law_500 dL_law_501 dL_law_502 dL_law_503 dL_law_504 ?_
  refine z_arg (k := 3) hx hb hX hbl hbA hS hl (j0 := 0) (j3 := 3) rfl rfl (by omega) hL dL_law_505 dL_law_506 dL_law_507 dL_law_508 dL_law_509 ?_
  refine z_goi (w' := wm1) XM hS hC (hmc wm wc1) (z_runV (As := [.int (xs (i + 1)), .int (xs (i + 2)), .int (xs (i + 3))]) (rest := [.int r]) XM gM_ok hM hS (ctX8_put l D c3 am wm _ (xs (i + 1)) (xs (i + 2)) (xs (i + 3)) _ _ h8) (cwV 3 hts gL_law_X8_put rfl rfl rfl (by decide +kernel) ⟨by decide, by decide⟩) (gM0 c3 am wm) rfl rfl rfl hl.1 rfl (Nat.le_of_ble_eq_true rfl) dL_law_510 hf) (fun H locs hM hC hS => ?_)
  refine lv_icmp_eq (tgt := 1479) hx hb dL_law_513 (by decide) (fun _ => ?_) (fun c_9 => absurd rfl c_9)
  exact kk _ _ wc1 wm1 hR1 hC hM hS
set_option maxRecDepth 20000 in
theorem cs_8 {p : Program} {l : Launch} {e : Env} {s : State} {m : MethodId} {below : List Frame} {meth : Method} {c : Code} {H : Heap} {locs : List Loc} {Q : State → Prop} {D : va_G} {c3 : C3} {ac am : Nat → Nat} {A : Nat → Prop} {b L i : Nat} {xs : Nat → Int32} {ls : Array Slot} {wc wm : Mm} {cells slots : Nat} (XC : Cx p s m #[Value.ref b] c code 4 RL wsL_law D c3 (encC c3 ac) gC A) (XM : Cx p s m #[Value.ref b] c code 4 RL wsL_law D c3 (encM c3 am) gM A) (hcm : ∀ v w, Apart (encC c3 ac v) (encM c3 am w)) (hmc : ∀ v w, Apart (encM c3 am v) (encC c3 ac w)) (hX : va_X b L xs s s.heap) (hbl : b < s.heap.size) (hbA : ¬ A b) (hf : cells ≤ room_1.cells ∧ slots ≤ room_1.slots) (hi : i + 6 ≤ L) (hL : L ≤ 384) (hR : Rel wc wm) (hC : va_P D vwCl (encC c3 ac wc) H) (hM : va_P D vwCl (encM c3 am wm) H) (hS : va_S A s.heap H locs) (hl : lv_has ls 4 [(0, .ref b), (1, .ref (ac 0)), (2, .ref (am 0)), (3, .int (nI i))])
    (kk : ∀ (H1 : Heap) (locs1 : List Loc) (wc1 wm1 : Mm), Rel wc1 wm1 → va_P D vwCl (encC c3 ac wc1) H1 → va_P D vwCl (encM c3 am wm1) H1 → va_S A s.heap H1 locs1 → W p l e room_1 s m #[Value.ref b] below meth c H1 locs1 cells slots Q (F0 m 1479 ls [])) : W p l e room_1 s m #[Value.ref b] below meth c H locs cells slots Q (F0 m 518 ls []) := by
  have hx := XC.1
  have hb := XC.2.1
  have hts := XC.2.2.2.2.1
  obtain ⟨r, wc1, wm1, h7, h8, hR1⟩ := sim_fault hR (xs (i + 1))
  refine lv_aload_n hx hb dL_law_518 rfl (lv_at hl 1 rfl) ?_
  refine z_arg (k := 1) hx hb hX hbl hbA hS hl (j0 := 0) (j3 := 3) rfl rfl (by omega) hL dL_law_519 dL_law_520 dL_law_521 dL_law_522 dL_law_523 ?_
  refine z_goi (w' := wc1) XC hS hM (hcm wc wm) (z_runV (As := [.int (xs (i + 1))]) (rest := []) XC gC_ok hC hS (ctX7_fault l D c3 ac wc _ (xs (i + 1)) _ _ h7) (cwV 1 hts gL_law_X7_fault rfl rfl rfl (by decide +kernel) ⟨by decide, by decide⟩) (gC0 c3 ac wc) rfl rfl rfl hl.1 rfl (Nat.le_of_ble_eq_true rfl) dL_law_524 hf) (fun H locs hC hM hS => ?_)
  refine lv_aload_n hx hb dL_law_527 rfl (lv_at hl 2 rfl) ?_
  refine z_arg (k := 1) hx hb hX hbl hbA hS hl (j0 := 0) (j3 := 3) rfl rfl (by omega) hL dL_law_528 dL_law_529 dL_law_530 dL_law_531 dL_law_532 ?_
  refine z_goi (w' := wm1) XM hS hC (hmc wm wc1) (z_runV (As := [.int (xs (i + 1))]) (rest := [.int r]) XM gM_ok hM hS (ctX8_fault l D c3 am wm _ (xs (i + 1)) _ _ h8) (cwV 1 hts gL_law_X8_fault rfl rfl rfl (by decide +kernel) ⟨by decide, by decide⟩) (gM0 c3 am wm) rfl rfl rfl hl.1 rfl (Nat.le_of_ble_eq_true rfl) dL_law_533 hf) (fun H locs hM hC hS => ?_)
  refine lv_icmp_eq (tgt := 1479) hx hb dL_law_536 (by decide) (fun _ => ?_) (fun c_9 => absurd rfl c_9)
  exact kk _ _ wc1 wm1 hR1 hC hM hS
set_option maxRecDepth 20000 in
theorem cs_9 {p : Program} {l : Launch} {e : Env} {s : State} {m : MethodId} {below : List Frame} {meth : Method} {c : Code} {H : Heap} {locs : List Loc} {Q : State → Prop} {D : va_G} {c3 : C3} {ac am : Nat → Nat} {A : Nat → Prop} {b L i : Nat} {xs : Nat → Int32} {ls : Array Slot} {wc wm : Mm} {cells slots : Nat} (XC : Cx p s m #[Value.ref b] c code 4 RL wsL_law D c3 (encC c3 ac) gC A) (XM : Cx p s m #[Value.ref b] c code 4 RL wsL_law D c3 (encM c3 am) gM A) (hcm : ∀ v w, Apart (encC c3 ac v) (encM c3 am w)) (hmc : ∀ v w, Apart (encM c3 am v) (encC c3 ac w)) (hX : va_X b L xs s s.heap) (hbl : b < s.heap.size) (hbA : ¬ A b) (hf : cells ≤ room_1.cells ∧ slots ≤ room_1.slots) (hi : i + 6 ≤ L) (hL : L ≤ 384) (hR : Rel wc wm) (hC : va_P D vwCl (encC c3 ac wc) H) (hM : va_P D vwCl (encM c3 am wm) H) (hS : va_S A s.heap H locs) (hl : lv_has ls 4 [(0, .ref b), (1, .ref (ac 0)), (2, .ref (am 0)), (3, .int (nI i))])
    (kk : ∀ (H1 : Heap) (locs1 : List Loc) (wc1 wm1 : Mm), Rel wc1 wm1 → va_P D vwCl (encC c3 ac wc1) H1 → va_P D vwCl (encM c3 am wm1) H1 → va_S A s.heap H1 locs1 → W p l e room_1 s m #[Value.ref b] below meth c H1 locs1 cells slots Q (F0 m 1479 ls [])) : W p l e room_1 s m #[Value.ref b] below meth c H locs cells slots Q (F0 m 541 ls []) := by
  have hx := XC.1
  have hb := XC.2.1
  have hts := XC.2.2.2.2.1
  obtain ⟨r, wc1, wm1, h7, h8, hR1⟩ := sim_family hR (xs (i + 1))
  refine lv_aload_n hx hb dL_law_541 rfl (lv_at hl 1 rfl) ?_
  refine z_arg (k := 1) hx hb hX hbl hbA hS hl (j0 := 0) (j3 := 3) rfl rfl (by omega) hL dL_law_542 dL_law_543 dL_law_544 dL_law_545 dL_law_546 ?_
  refine z_goi (w' := wc1) XC hS hM (hcm wc wm) (z_runV (As := [.int (xs (i + 1))]) (rest := []) XC gC_ok hC hS (ctX7_family l D c3 ac wc _ (xs (i + 1)) _ _ h7) (cwV 1 hts gL_law_X7_family rfl rfl rfl (by decide +kernel) ⟨by decide, by decide⟩) (gC0 c3 ac wc) rfl rfl rfl hl.1 rfl (Nat.le_of_ble_eq_true rfl) dL_law_547 hf) (fun H locs hC hM hS => ?_)
  refine lv_aload_n hx hb dL_law_550 rfl (lv_at hl 2 rfl) ?_
  refine z_arg (k := 1) hx hb hX hbl hbA hS hl (j0 := 0) (j3 := 3) rfl rfl (by omega) hL dL_law_551 dL_law_552 dL_law_553 dL_law_554 dL_law_555 ?_
  refine z_goi (w' := wm1) XM hS hC (hmc wm wc1) (z_runV (As := [.int (xs (i + 1))]) (rest := [.int r]) XM gM_ok hM hS (ctX8_family l D c3 am wm _ (xs (i + 1)) _ _ h8) (cwV 1 hts gL_law_X8_family rfl rfl rfl (by decide +kernel) ⟨by decide, by decide⟩) (gM0 c3 am wm) rfl rfl rfl hl.1 rfl (Nat.le_of_ble_eq_true rfl) dL_law_556 hf) (fun H locs hM hC hS => ?_)
  refine lv_icmp_eq (tgt := 1479) hx hb dL_law_559 (by decide) (fun _ => ?_) (fun c_9 => absurd rfl c_9)
  exact kk _ _ wc1 wm1 hR1 hC hM hS
set_option maxRecDepth 20000 in
theorem cs_10 {p : Program} {l : Launch} {e : Env} {s : State} {m : MethodId} {below : List Frame} {meth : Method} {c : Code} {H : Heap} {locs : List Loc} {Q : State → Prop} {D : va_G} {c3 : C3} {ac am : Nat → Nat} {A : Nat → Prop} {b L i : Nat} {xs : Nat → Int32} {ls : Array Slot} {wc wm : Mm} {cells slots : Nat} (XC : Cx p s m #[Value.ref b] c code 4 RL wsL_law D c3 (encC c3 ac) gC A) (XM : Cx p s m #[Value.ref b] c code 4 RL wsL_law D c3 (encM c3 am) gM A) (hcm : ∀ v w, Apart (encC c3 ac v) (encM c3 am w)) (hmc : ∀ v w, Apart (encM c3 am v) (encC c3 ac w)) (hX : va_X b L xs s s.heap) (hbl : b < s.heap.size) (hbA : ¬ A b) (hf : cells ≤ room_1.cells ∧ slots ≤ room_1.slots) (hi : i + 6 ≤ L) (hL : L ≤ 384) (hR : Rel wc wm) (hC : va_P D vwCl (encC c3 ac wc) H) (hM : va_P D vwCl (encM c3 am wm) H) (hS : va_S A s.heap H locs) (hl : lv_has ls 4 [(0, .ref b), (1, .ref (ac 0)), (2, .ref (am 0)), (3, .int (nI i))])
    (kk : ∀ (H1 : Heap) (locs1 : List Loc) (wc1 wm1 : Mm), Rel wc1 wm1 → va_P D vwCl (encC c3 ac wc1) H1 → va_P D vwCl (encM c3 am wm1) H1 → va_S A s.heap H1 locs1 → W p l e room_1 s m #[Value.ref b] below meth c H1 locs1 cells slots Q (F0 m 1479 ls [])) : W p l e room_1 s m #[Value.ref b] below meth c H locs cells slots Q (F0 m 564 ls []) := by
  have hx := XC.1
  have hb := XC.2.1
  have hts := XC.2.2.2.2.1
  obtain ⟨r, wc1, wm1, h7, h8, hR1⟩ := sim_saying hR (xs (i + 1)) (xs (i + 2))
  refine lv_aload_n hx hb dL_law_564 rfl (lv_at hl 1 rfl) ?_
  refine z_arg (k := 1) hx hb hX hbl hbA hS hl (j0 := 0) (j3 := 3) rfl rfl (by omega) hL dL_law_565 dL_law_566 dL_law_567 dL_law_568 dL_law_569 ?_
  refine z_arg (k := 2) hx hb hX hbl hbA hS hl (j0 := 0) (j3 := 3) rfl rfl (by omega) hL dL_law_570 dL_law_571 dL_law_572 dL_law_573 dL_law_574 ?_
  refine z_goi (w' := wc1) XC hS hM (hcm wc wm) (z_runV (As := [.int (xs (i + 1)), .int (xs (i + 2))]) (rest := []) XC gC_ok hC hS (ctX7_saying l D c3 ac wc _ (xs (i + 1)) (xs (i + 2)) _ _ h7) (cwV 2 hts gL_law_X7_saying rfl rfl rfl (by decide +kernel) ⟨by decide, by decide⟩) (gC0 c3 ac wc) rfl rfl rfl hl.1 rfl (Nat.le_of_ble_eq_true rfl) dL_law_575 hf) (fun H locs hC hM hS => ?_)
  refine lv_aload_n hx hb dL_law_578 rfl (lv_at hl 2 rfl) ?_
  refine z_arg (k := 1) hx hb hX hbl hbA hS hl (j0 := 0) (j3 := 3) rfl rfl (by omega) hL dL_law_579 dL_law_580 dL_law_581 dL_law_582 dL_law_583 ?_
  refine z_arg (k := 2) hx hb hX hbl hbA hS hl (j0 := 0) (j3 := 3) rfl rfl (by omega) hL dL_law_584 dL_law_585 dL_law_586 dL_law_587 dL_law_588 ?_
  refine z_goi (w' := wm1) XM hS hC (hmc wm wc1) (z_runV (As := [.int (xs (i + 1)), .int (xs (i + 2))]) (rest := [.int r]) XM gM_ok hM hS (ctX8_saying l D c3 am wm _ (xs (i + 1)) (xs (i + 2)) _ _ h8) (cwV 2 hts gL_law_X8_saying rfl rfl rfl (by decide +kernel) ⟨by decide, by decide⟩) (gM0 c3 am wm) rfl rfl rfl hl.1 rfl (Nat.le_of_ble_eq_true rfl) dL_law_589 hf) (fun H locs hM hC hS => ?_)
  refine lv_icmp_eq (tgt := 1479) hx hb dL_law_592 (by decide) (fun _ => ?_) (fun c_9 => absurd rfl c_9)
  exact kk _ _ wc1 wm1 hR1 hC hM hS
set_option maxRecDepth 20000 in
theorem cs_11 {p : Program} {l : Launch} {e : Env} {s : State} {m : MethodId} {below : List Frame} {meth : Method} {c : Code} {H : Heap} {locs : List Loc} {Q : State → Prop} {D : va_G} {c3 : C3} {ac am : Nat → Nat} {A : Nat → Prop} {b L i : Nat} {xs : Nat → Int32} {ls : Array Slot} {wc wm : Mm} {cells slots : Nat} (XC : Cx p s m #[Value.ref b] c code 4 RL wsL_law D c3 (encC c3 ac) gC A) (XM : Cx p s m #[Value.ref b] c code 4 RL wsL_law D c3 (encM c3 am) gM A) (hcm : ∀ v w, Apart (encC c3 ac v) (encM c3 am w)) (hmc : ∀ v w, Apart (encM c3 am v) (encC c3 ac w)) (hX : va_X b L xs s s.heap) (hbl : b < s.heap.size) (hbA : ¬ A b) (hf : cells ≤ room_1.cells ∧ slots ≤ room_1.slots) (hi : i + 6 ≤ L) (hL : L ≤ 384) (hR : Rel wc wm) (hC : va_P D vwCl (encC c3 ac wc) H) (hM : va_P D vwCl (encM c3 am wm) H) (hS : va_S A s.heap H locs) (hl : lv_has ls 4 [(0, .ref b), (1, .ref (ac 0)), (2, .ref (am 0)), (3, .int (nI i))])
    (kk : ∀ (H1 : Heap) (locs1 : List Loc) (wc1 wm1 : Mm), Rel wc1 wm1 → va_P D vwCl (encC c3 ac wc1) H1 → va_P D vwCl (encM c3 am wm1) H1 → va_S A s.heap H1 locs1 → W p l e room_1 s m #[Value.ref b] below meth c H1 locs1 cells slots Q (F0 m 1479 ls [])) : W p l e room_1 s m #[Value.ref b] below meth c H locs cells slots Q (F0 m 597 ls []) := by
  have hx := XC.1
  have hb := XC.2.1
  have hts := XC.2.2.2.2.1
  obtain ⟨r, wc1, wm1, h7, h8, hR1⟩ := sim_mark hR (xs (i + 1)) (xs (i + 2))
  refine lv_aload_n hx hb dL_law_597 rfl (lv_at hl 1 rfl) ?_
  refine z_arg (k := 1) hx hb hX hbl hbA hS hl (j0 := 0) (j3 := 3) rfl rfl (by omega) hL dL_law_598 dL_law_599 dL_law_600 dL_law_601 dL_law_602 ?_
  refine z_arg (k := 2) hx hb hX hbl hbA hS hl (j0 := 0) (j3 := 3) rfl rfl (by omega) hL dL_law_603 dL_law_604 dL_law_605 dL_law_606 dL_law_607 ?_
  refine z_goi (w' := wc1) XC hS hM (hcm wc wm) (z_runV (As := [.int (xs (i + 1)), .int (xs (i + 2))]) (rest := []) XC gC_ok hC hS (ctX7_mark l D c3 ac wc _ (xs (i + 1)) (xs (i + 2)) _ _ h7) (cwV 2 hts gL_law_X7_mark rfl rfl rfl (by decide +kernel) ⟨by decide, by decide⟩) (gC0 c3 ac wc) rfl rfl rfl hl.1 rfl (Nat.le_of_ble_eq_true rfl) dL_law_608 hf) (fun H locs hC hM hS => ?_)
  refine lv_aload_n hx hb dL_law_611 rfl (lv_at hl 2 rfl) ?_
  refine z_arg (k := 1) hx hb hX hbl hbA hS hl (j0 := 0) (j3 := 3) rfl rfl (by omega) hL dL_law_612 dL_law_613 dL_law_614 dL_law_615 dL_law_616 ?_
  refine z_arg (k := 2) hx hb hX hbl hbA hS hl (j0 := 0) (j3 := 3) rfl rfl (by omega) hL dL_law_617 dL_law_618 dL_law_619 dL_law_620 dL_law_621 ?_
  refine z_goi (w' := wm1) XM hS hC (hmc wm wc1) (z_runV (As := [.int (xs (i + 1)), .int (xs (i + 2))]) (rest := [.int r]) XM gM_ok hM hS (ctX8_mark l D c3 am wm _ (xs (i + 1)) (xs (i + 2)) _ _ h8) (cwV 2 hts gL_law_X8_mark rfl rfl rfl (by decide +kernel) ⟨by decide, by decide⟩) (gM0 c3 am wm) rfl rfl rfl hl.1 rfl (Nat.le_of_ble_eq_true rfl) dL_law_622 hf) (fun H locs hM hC hS => ?_)
  refine lv_icmp_eq (tgt := 1479) hx hb dL_law_625 (by decide) (fun _ => ?_) (fun c_9 => absurd rfl c_9)
  exact kk _ _ wc1 wm1 hR1 hC hM hS
set_option maxRecDepth 20000 in
theorem cs_12 {p : Program} {l : Launch} {e : Env} {s : State} {m : MethodId} {below : List Frame} {meth : Method} {c : Code} {H : Heap} {locs : List Loc} {Q : State → Prop} {D : va_G} {c3 : C3} {ac am : Nat → Nat} {A : Nat → Prop} {b L i : Nat} {xs : Nat → Int32} {ls : Array Slot} {wc wm : Mm} {cells slots : Nat} (XC : Cx p s m #[Value.ref b] c code 4 RL wsL_law D c3 (encC c3 ac) gC A) (XM : Cx p s m #[Value.ref b] c code 4 RL wsL_law D c3 (encM c3 am) gM A) (hcm : ∀ v w, Apart (encC c3 ac v) (encM c3 am w)) (hmc : ∀ v w, Apart (encM c3 am v) (encC c3 ac w)) (hX : va_X b L xs s s.heap) (hbl : b < s.heap.size) (hbA : ¬ A b) (hf : cells ≤ room_1.cells ∧ slots ≤ room_1.slots) (hi : i + 6 ≤ L) (hL : L ≤ 384) (hR : Rel wc wm) (hC : va_P D vwCl (encC c3 ac wc) H) (hM : va_P D vwCl (encM c3 am wm) H) (hS : va_S A s.heap H locs) (hl : lv_has ls 4 [(0, .ref b), (1, .ref (ac 0)), (2, .ref (am 0)), (3, .int (nI i))])
    (kk : ∀ (H1 : Heap) (locs1 : List Loc) (wc1 wm1 : Mm), Rel wc1 wm1 → va_P D vwCl (encC c3 ac wc1) H1 → va_P D vwCl (encM c3 am wm1) H1 → va_S A s.heap H1 locs1 → W p l e room_1 s m #[Value.ref b] below meth c H1 locs1 cells slots Q (F0 m 1479 ls [])) : W p l e room_1 s m #[Value.ref b] below meth c H locs cells slots Q (F0 m 630 ls []) := by
  have hx := XC.1
  have hb := XC.2.1
  have hts := XC.2.2.2.2.1
  obtain ⟨r, h7, h8⟩ := sim_bears hR (xs (i + 1))
  refine lv_aload_n hx hb dL_law_630 rfl (lv_at hl 1 rfl) ?_
  refine z_arg (k := 1) hx hb hX hbl hbA hS hl (j0 := 0) (j3 := 3) rfl rfl (by omega) hL dL_law_631 dL_law_632 dL_law_633 dL_law_634 dL_law_635 ?_
  refine z_goi (w' := wc) XC hS hM (hcm wc wm) (z_runV (As := [.int (xs (i + 1))]) (rest := []) XC gC_ok hC hS (ctX7_bears l D c3 ac wc _ (xs (i + 1)) _ h7) (cwV 1 hts gL_law_X7_bears rfl rfl rfl (by decide +kernel) ⟨by decide, by decide⟩) (gC0 c3 ac wc) rfl rfl rfl hl.1 rfl (Nat.le_of_ble_eq_true rfl) dL_law_636 hf) (fun H locs hC hM hS => ?_)
  refine lv_aload_n hx hb dL_law_639 rfl (lv_at hl 2 rfl) ?_
  refine z_arg (k := 1) hx hb hX hbl hbA hS hl (j0 := 0) (j3 := 3) rfl rfl (by omega) hL dL_law_640 dL_law_641 dL_law_642 dL_law_643 dL_law_644 ?_
  refine z_goi (w' := wm) XM hS hC (hmc wm wc) (z_runV (As := [.int (xs (i + 1))]) (rest := [.int r]) XM gM_ok hM hS (ctX8_bears l D c3 am wm _ (xs (i + 1)) _ h8) (cwV 1 hts gL_law_X8_bears rfl rfl rfl (by decide +kernel) ⟨by decide, by decide⟩) (gM0 c3 am wm) rfl rfl rfl hl.1 rfl (Nat.le_of_ble_eq_true rfl) dL_law_645 hf) (fun H locs hM hC hS => ?_)
  refine lv_icmp_eq (tgt := 1479) hx hb dL_law_648 (by decide) (fun _ => ?_) (fun c_9 => absurd rfl c_9)
  exact kk _ _ wc wm hR hC hM hS
set_option maxRecDepth 20000 in
theorem cs_13 {p : Program} {l : Launch} {e : Env} {s : State} {m : MethodId} {below : List Frame} {meth : Method} {c : Code} {H : Heap} {locs : List Loc} {Q : State → Prop} {D : va_G} {c3 : C3} {ac am : Nat → Nat} {A : Nat → Prop} {b L i : Nat} {xs : Nat → Int32} {ls : Array Slot} {wc wm : Mm} {cells slots : Nat} (XC : Cx p s m #[Value.ref b] c code 4 RL wsL_law D c3 (encC c3 ac) gC A) (XM : Cx p s m #[Value.ref b] c code 4 RL wsL_law D c3 (encM c3 am) gM A) (hcm : ∀ v w, Apart (encC c3 ac v) (encM c3 am w)) (hmc : ∀ v w, Apart (encM c3 am v) (encC c3 ac w)) (hX : va_X b L xs s s.heap) (hbl : b < s.heap.size) (hbA : ¬ A b) (hf : cells ≤ room_1.cells ∧ slots ≤ room_1.slots) (hi : i + 6 ≤ L) (hL : L ≤ 384) (hR : Rel wc wm) (hC : va_P D vwCl (encC c3 ac wc) H) (hM : va_P D vwCl (encM c3 am wm) H) (hS : va_S A s.heap H locs) (hl : lv_has ls 4 [(0, .ref b), (1, .ref (ac 0)), (2, .ref (am 0)), (3, .int (nI i))])
    (kk : ∀ (H1 : Heap) (locs1 : List Loc) (wc1 wm1 : Mm), Rel wc1 wm1 → va_P D vwCl (encC c3 ac wc1) H1 → va_P D vwCl (encM c3 am wm1) H1 → va_S A s.heap H1 locs1 → W p l e room_1 s m #[Value.ref b] below meth c H1 locs1 cells slots Q (F0 m 1479 ls [])) : W p l e room_1 s m #[Value.ref b] below meth c H locs cells slots Q (F0 m 653 ls []) := by
  have hx := XC.1
  have hb := XC.2.1
  have hts := XC.2.2.2.2.1
  obtain ⟨r, wc1, wm1, h7, h8, hR1⟩ := sim_say hR (xs (i + 1)) (xs (i + 2))
  refine lv_aload_n hx hb dL_law_653 rfl (lv_at hl 1 rfl) ?_
  refine z_arg (k := 1) hx hb hX hbl hbA hS hl (j0 := 0) (j3 := 3) rfl rfl (by omega) hL dL_law_654 dL_law_655 dL_law_656 dL_law_657 dL_law_658 ?_
  refine z_arg (k := 2) hx hb hX hbl hbA hS hl (j0 := 0) (j3 := 3) rfl rfl (by omega) hL dL_law_659 dL_law_660 dL_law_661 dL_law_662 dL_law_663 ?_
  refine z_goi (w' := wc1) XC hS hM (hcm wc wm) (z_runV (As := [.int (xs (i + 1)), .int (xs (i + 2))]) (rest := []) XC gC_ok hC hS (ctX7_say l D c3 ac wc _ (xs (i + 1)) (xs (i + 2)) _ _ h7) (cwV 2 hts gL_law_X7_say rfl rfl rfl (by decide +kernel) ⟨by decide, by decide⟩) (gC0 c3 ac wc) rfl rfl rfl hl.1 rfl (Nat.le_of_ble_eq_true rfl) dL_law_664 hf) (fun H locs hC hM hS => ?_)
  refine lv_aload_n hx hb dL_law_667 rfl (lv_at hl 2 rfl) ?_
  refine z_arg (k := 1) hx hb hX hbl hbA hS hl (j0 := 0) (j3 := 3) rfl rfl (by omega) hL dL_law_668 dL_law_669 dL_law_670 dL_law_671 dL_law_672 ?_
  refine z_arg (k := 2) hx hb hX hbl hbA hS hl (j0 := 0) (j3 := 3) rfl rfl (by omega) hL dL_law_673 dL_law_674 dL_law_675 dL_law_676 dL_law_677 ?_
  refine z_goi (w' := wm1) XM hS hC (hmc wm wc1) (z_runV (As := [.int (xs (i + 1)), .int (xs (i + 2))]) (rest := [.int r]) XM gM_ok hM hS (ctX8_say l D c3 am wm _ (xs (i + 1)) (xs (i + 2)) _ _ h8) (cwV 2 hts gL_law_X8_say rfl rfl rfl (by decide +kernel) ⟨by decide, by decide⟩) (gM0 c3 am wm) rfl rfl rfl hl.1 rfl (Nat.le_of_ble_eq_true rfl) dL_law_678 hf) (fun H locs hM hC hS => ?_)
  refine lv_icmp_eq (tgt := 1479) hx hb dL_law_681 (by decide) (fun _ => ?_) (fun c_9 => absurd rfl c_9)
  exact kk _ _ wc1 wm1 hR1 hC hM hS
set_option maxRecDepth 20000 in
theorem cs_14 {p : Program} {l : Launch} {e : Env} {s : State} {m : MethodId} {below : List Frame} {meth : Method} {c : Code} {H : Heap} {locs : List Loc} {Q : State → Prop} {D : va_G} {c3 : C3} {ac am : Nat → Nat} {A : Nat → Prop} {b L i : Nat} {xs : Nat → Int32} {ls : Array Slot} {wc wm : Mm} {cells slots : Nat} (XC : Cx p s m #[Value.ref b] c code 4 RL wsL_law D c3 (encC c3 ac) gC A) (XM : Cx p s m #[Value.ref b] c code 4 RL wsL_law D c3 (encM c3 am) gM A) (hcm : ∀ v w, Apart (encC c3 ac v) (encM c3 am w)) (hmc : ∀ v w, Apart (encM c3 am v) (encC c3 ac w)) (hX : va_X b L xs s s.heap) (hbl : b < s.heap.size) (hbA : ¬ A b) (hf : cells ≤ room_1.cells ∧ slots ≤ room_1.slots) (hi : i + 6 ≤ L) (hL : L ≤ 384) (hR : Rel wc wm) (hC : va_P D vwCl (encC c3 ac wc) H) (hM : va_P D vwCl (encM c3 am wm) H) (hS : va_S A s.heap H locs) (hl : lv_has ls 4 [(0, .ref b), (1, .ref (ac 0)), (2, .ref (am 0)), (3, .int (nI i))])
    (kk : ∀ (H1 : Heap) (locs1 : List Loc) (wc1 wm1 : Mm), Rel wc1 wm1 → va_P D vwCl (encC c3 ac wc1) H1 → va_P D vwCl (encM c3 am wm1) H1 → va_S A s.heap H1 locs1 → W p l e room_1 s m #[Value.ref b] below meth c H1 locs1 cells slots Q (F0 m 1479 ls [])) : W p l e room_1 s m #[Value.ref b] below meth c H locs cells slots Q (F0 m 686 ls []) := by
  have hx := XC.1
  have hb := XC.2.1
  have hts := XC.2.2.2.2.1
  obtain ⟨r, wc1, wm1, h7, h8, hR1⟩ := sim_day hR
  refine lv_aload_n hx hb dL_law_686 rfl (lv_at hl 1 rfl) ?_
  refine z_goi (w' := wc1) XC hS hM (hcm wc wm) (z_runV (As := []) (rest := []) XC gC_ok hC hS (ctX7_day l D c3 ac wc _ _ _ h7) (cwV 0 hts gL_law_X7_day rfl rfl rfl (by decide +kernel) ⟨by decide, by decide⟩) (gC0 c3 ac wc) rfl rfl rfl hl.1 rfl (Nat.le_of_ble_eq_true rfl) dL_law_687 hf) (fun H locs hC hM hS => ?_)
  refine lv_aload_n hx hb dL_law_690 rfl (lv_at hl 2 rfl) ?_
  refine z_goi (w' := wm1) XM hS hC (hmc wm wc1) (z_runV (As := []) (rest := [.int r]) XM gM_ok hM hS (ctX8_day l D c3 am wm _ _ _ h8) (cwV 0 hts gL_law_X8_day rfl rfl rfl (by decide +kernel) ⟨by decide, by decide⟩) (gM0 c3 am wm) rfl rfl rfl hl.1 rfl (Nat.le_of_ble_eq_true rfl) dL_law_691 hf) (fun H locs hM hC hS => ?_)
  refine lv_icmp_eq (tgt := 1479) hx hb dL_law_694 (by decide) (fun _ => ?_) (fun c_9 => absurd rfl c_9)
  exact kk _ _ wc1 wm1 hR1 hC hM hS
set_option maxRecDepth 20000 in
theorem cs_15 {p : Program} {l : Launch} {e : Env} {s : State} {m : MethodId} {below : List Frame} {meth : Method} {c : Code} {H : Heap} {locs : List Loc} {Q : State → Prop} {D : va_G} {c3 : C3} {ac am : Nat → Nat} {A : Nat → Prop} {b L i : Nat} {xs : Nat → Int32} {ls : Array Slot} {wc wm : Mm} {cells slots : Nat} (XC : Cx p s m #[Value.ref b] c code 4 RL wsL_law D c3 (encC c3 ac) gC A) (XM : Cx p s m #[Value.ref b] c code 4 RL wsL_law D c3 (encM c3 am) gM A) (hcm : ∀ v w, Apart (encC c3 ac v) (encM c3 am w)) (hmc : ∀ v w, Apart (encM c3 am v) (encC c3 ac w)) (hX : va_X b L xs s s.heap) (hbl : b < s.heap.size) (hbA : ¬ A b) (hf : cells ≤ room_1.cells ∧ slots ≤ room_1.slots) (hi : i + 6 ≤ L) (hL : L ≤ 384) (hR : Rel wc wm) (hC : va_P D vwCl (encC c3 ac wc) H) (hM : va_P D vwCl (encM c3 am wm) H) (hS : va_S A s.heap H locs) (hl : lv_has ls 4 [(0, .ref b), (1, .ref (ac 0)), (2, .ref (am 0)), (3, .int (nI i))])
    (kk : ∀ (H1 : Heap) (locs1 : List Loc) (wc1 wm1 : Mm), Rel wc1 wm1 → va_P D vwCl (encC c3 ac wc1) H1 → va_P D vwCl (encM c3 am wm1) H1 → va_S A s.heap H1 locs1 → W p l e room_1 s m #[Value.ref b] below meth c H1 locs1 cells slots Q (F0 m 1479 ls [])) : W p l e room_1 s m #[Value.ref b] below meth c H locs cells slots Q (F0 m 699 ls []) := by
  have hx := XC.1
  have hb := XC.2.1
  have hts := XC.2.2.2.2.1
  obtain ⟨r, wc1, wm1, h7, h8, hR1⟩ := sim_undo hR (xs (i + 1))
  refine lv_aload_n hx hb dL_law_699 rfl (lv_at hl 1 rfl) ?_
  refine z_arg (k := 1) hx hb hX hbl hbA hS hl (j0 := 0) (j3 := 3) rfl rfl (by omega) hL dL_law_700 dL_law_701 dL_law_702 dL_law_703 dL_law_704 ?_
  refine z_goi (w' := wc1) XC hS hM (hcm wc wm) (z_runV (As := [.int (xs (i + 1))]) (rest := []) XC gC_ok hC hS (ctX7_undo l D c3 ac wc _ (xs (i + 1)) _ _ h7) (cwV 1 hts gL_law_X7_undo rfl rfl rfl (by decide +kernel) ⟨by decide, by decide⟩) (gC0 c3 ac wc) rfl rfl rfl hl.1 rfl (Nat.le_of_ble_eq_true rfl) dL_law_705 hf) (fun H locs hC hM hS => ?_)
  refine lv_aload_n hx hb dL_law_708 rfl (lv_at hl 2 rfl) ?_
  refine z_arg (k := 1) hx hb hX hbl hbA hS hl (j0 := 0) (j3 := 3) rfl rfl (by omega) hL dL_law_709 dL_law_710 dL_law_711 dL_law_712 dL_law_713 ?_
  refine z_goi (w' := wm1) XM hS hC (hmc wm wc1) (z_runV (As := [.int (xs (i + 1))]) (rest := [.int r]) XM gM_ok hM hS (ctX8_undo l D c3 am wm _ (xs (i + 1)) _ _ h8) (cwV 1 hts gL_law_X8_undo rfl rfl rfl (by decide +kernel) ⟨by decide, by decide⟩) (gM0 c3 am wm) rfl rfl rfl hl.1 rfl (Nat.le_of_ble_eq_true rfl) dL_law_714 hf) (fun H locs hM hC hS => ?_)
  refine lv_icmp_eq (tgt := 1479) hx hb dL_law_717 (by decide) (fun _ => ?_) (fun c_9 => absurd rfl c_9)
  exact kk _ _ wc1 wm1 hR1 hC hM hS
set_option maxRecDepth 20000 in
theorem cs_16 {p : Program} {l : Launch} {e : Env} {s : State} {m : MethodId} {below : List Frame} {meth : Method} {c : Code} {H : Heap} {locs : List Loc} {Q : State → Prop} {D : va_G} {c3 : C3} {ac am : Nat → Nat} {A : Nat → Prop} {b L i : Nat} {xs : Nat → Int32} {ls : Array Slot} {wc wm : Mm} {cells slots : Nat} (XC : Cx p s m #[Value.ref b] c code 4 RL wsL_law D c3 (encC c3 ac) gC A) (XM : Cx p s m #[Value.ref b] c code 4 RL wsL_law D c3 (encM c3 am) gM A) (hcm : ∀ v w, Apart (encC c3 ac v) (encM c3 am w)) (hmc : ∀ v w, Apart (encM c3 am v) (encC c3 ac w)) (hX : va_X b L xs s s.heap) (hbl : b < s.heap.size) (hbA : ¬ A b) (hf : cells ≤ room_1.cells ∧ slots ≤ room_1.slots) (hi : i + 6 ≤ L) (hL : L ≤ 384) (hR : Rel wc wm) (hC : va_P D vwCl (encC c3 ac wc) H) (hM : va_P D vwCl (encM c3 am wm) H) (hS : va_S A s.heap H locs) (hl : lv_has ls 4 [(0, .ref b), (1, .ref (ac 0)), (2, .ref (am 0)), (3, .int (nI i))])
    (kk : ∀ (H1 : Heap) (locs1 : List Loc) (wc1 wm1 : Mm), Rel wc1 wm1 → va_P D vwCl (encC c3 ac wc1) H1 → va_P D vwCl (encM c3 am wm1) H1 → va_S A s.heap H1 locs1 → W p l e room_1 s m #[Value.ref b] below meth c H1 locs1 cells slots Q (F0 m 1479 ls [])) : W p l e room_1 s m #[Value.ref b] below meth c H locs cells slots Q (F0 m 722 ls []) := by
  have hx := XC.1
  have hb := XC.2.1
  have hts := XC.2.2.2.2.1
  obtain ⟨r, wc1, wm1, h7, h8, hR1⟩ := sim_keep hR (xs (i + 1))
  refine lv_aload_n hx hb dL_law_722 rfl (lv_at hl 1 rfl) ?_
  refine z_arg (k := 1) hx hb hX hbl hbA hS hl (j0 := 0) (j3 := 3) rfl rfl (by omega) hL dL_law_723 dL_law_724 dL_law_725 dL_law_726 dL_law_727 ?_
  refine z_goi (w' := wc1) XC hS hM (hcm wc wm) (z_runV (As := [.int (xs (i + 1))]) (rest := []) XC gC_ok hC hS (ctX7_keep l D c3 ac wc _ (xs (i + 1)) _ _ h7) (cwV 1 hts gL_law_X7_keep rfl rfl rfl (by decide +kernel) ⟨by decide, by decide⟩) (gC0 c3 ac wc) rfl rfl rfl hl.1 rfl (Nat.le_of_ble_eq_true rfl) dL_law_728 hf) (fun H locs hC hM hS => ?_)
  refine lv_aload_n hx hb dL_law_731 rfl (lv_at hl 2 rfl) ?_
  refine z_arg (k := 1) hx hb hX hbl hbA hS hl (j0 := 0) (j3 := 3) rfl rfl (by omega) hL dL_law_732 dL_law_733 dL_law_734 dL_law_735 dL_law_736 ?_
  refine z_goi (w' := wm1) XM hS hC (hmc wm wc1) (z_runV (As := [.int (xs (i + 1))]) (rest := [.int r]) XM gM_ok hM hS (ctX8_keep l D c3 am wm _ (xs (i + 1)) _ _ h8) (cwV 1 hts gL_law_X8_keep rfl rfl rfl (by decide +kernel) ⟨by decide, by decide⟩) (gM0 c3 am wm) rfl rfl rfl hl.1 rfl (Nat.le_of_ble_eq_true rfl) dL_law_737 hf) (fun H locs hM hC hS => ?_)
  refine lv_icmp_eq (tgt := 1479) hx hb dL_law_740 (by decide) (fun _ => ?_) (fun c_9 => absurd rfl c_9)
  exact kk _ _ wc1 wm1 hR1 hC hM hS
set_option maxRecDepth 20000 in
theorem cs_17 {p : Program} {l : Launch} {e : Env} {s : State} {m : MethodId} {below : List Frame} {meth : Method} {c : Code} {H : Heap} {locs : List Loc} {Q : State → Prop} {D : va_G} {c3 : C3} {ac am : Nat → Nat} {A : Nat → Prop} {b L i : Nat} {xs : Nat → Int32} {ls : Array Slot} {wc wm : Mm} {cells slots : Nat} (XC : Cx p s m #[Value.ref b] c code 4 RL wsL_law D c3 (encC c3 ac) gC A) (XM : Cx p s m #[Value.ref b] c code 4 RL wsL_law D c3 (encM c3 am) gM A) (hcm : ∀ v w, Apart (encC c3 ac v) (encM c3 am w)) (hmc : ∀ v w, Apart (encM c3 am v) (encC c3 ac w)) (hX : va_X b L xs s s.heap) (hbl : b < s.heap.size) (hbA : ¬ A b) (hf : cells ≤ room_1.cells ∧ slots ≤ room_1.slots) (hi : i + 6 ≤ L) (hL : L ≤ 384) (hR : Rel wc wm) (hC : va_P D vwCl (encC c3 ac wc) H) (hM : va_P D vwCl (encM c3 am wm) H) (hS : va_S A s.heap H locs) (hl : lv_has ls 4 [(0, .ref b), (1, .ref (ac 0)), (2, .ref (am 0)), (3, .int (nI i))])
    (kk : ∀ (H1 : Heap) (locs1 : List Loc) (wc1 wm1 : Mm), Rel wc1 wm1 → va_P D vwCl (encC c3 ac wc1) H1 → va_P D vwCl (encM c3 am wm1) H1 → va_S A s.heap H1 locs1 → W p l e room_1 s m #[Value.ref b] below meth c H1 locs1 cells slots Q (F0 m 1479 ls [])) : W p l e room_1 s m #[Value.ref b] below meth c H locs cells slots Q (F0 m 745 ls []) := by
  have hx := XC.1
  have hb := XC.2.1
  have hts := XC.2.2.2.2.1
  obtain ⟨r, wc1, wm1, h7, h8, hR1⟩ := sim_on hR (xs (i + 1))
  refine lv_aload_n hx hb dL_law_745 rfl (lv_at hl 1 rfl) ?_
  refine z_arg (k := 1) hx hb hX hbl hbA hS hl (j0 := 0) (j3 := 3) rfl rfl (by omega) hL dL_law_746 dL_law_747 dL_law_748 dL_law_749 dL_law_750 ?_
  refine z_goi (w' := wc1) XC hS hM (hcm wc wm) (z_runV (As := [.int (xs (i + 1))]) (rest := []) XC gC_ok hC hS (ctX7_on l D c3 ac wc _ (xs (i + 1)) _ _ h7) (cwV 1 hts gL_law_X7_on rfl rfl rfl (by decide +kernel) ⟨by decide, by decide⟩) (gC0 c3 ac wc) rfl rfl rfl hl.1 rfl (Nat.le_of_ble_eq_true rfl) dL_law_751 hf) (fun H locs hC hM hS => ?_)
  refine lv_aload_n hx hb dL_law_754 rfl (lv_at hl 2 rfl) ?_
  refine z_arg (k := 1) hx hb hX hbl hbA hS hl (j0 := 0) (j3 := 3) rfl rfl (by omega) hL dL_law_755 dL_law_756 dL_law_757 dL_law_758 dL_law_759 ?_
  refine z_goi (w' := wm1) XM hS hC (hmc wm wc1) (z_runV (As := [.int (xs (i + 1))]) (rest := [.int r]) XM gM_ok hM hS (ctX8_on l D c3 am wm _ (xs (i + 1)) _ _ h8) (cwV 1 hts gL_law_X8_on rfl rfl rfl (by decide +kernel) ⟨by decide, by decide⟩) (gM0 c3 am wm) rfl rfl rfl hl.1 rfl (Nat.le_of_ble_eq_true rfl) dL_law_760 hf) (fun H locs hM hC hS => ?_)
  refine lv_icmp_eq (tgt := 1479) hx hb dL_law_763 (by decide) (fun _ => ?_) (fun c_9 => absurd rfl c_9)
  exact kk _ _ wc1 wm1 hR1 hC hM hS
set_option maxRecDepth 20000 in
theorem cs_18 {p : Program} {l : Launch} {e : Env} {s : State} {m : MethodId} {below : List Frame} {meth : Method} {c : Code} {H : Heap} {locs : List Loc} {Q : State → Prop} {D : va_G} {c3 : C3} {ac am : Nat → Nat} {A : Nat → Prop} {b L i : Nat} {xs : Nat → Int32} {ls : Array Slot} {wc wm : Mm} {cells slots : Nat} (XC : Cx p s m #[Value.ref b] c code 4 RL wsL_law D c3 (encC c3 ac) gC A) (XM : Cx p s m #[Value.ref b] c code 4 RL wsL_law D c3 (encM c3 am) gM A) (hcm : ∀ v w, Apart (encC c3 ac v) (encM c3 am w)) (hmc : ∀ v w, Apart (encM c3 am v) (encC c3 ac w)) (hX : va_X b L xs s s.heap) (hbl : b < s.heap.size) (hbA : ¬ A b) (hf : cells ≤ room_1.cells ∧ slots ≤ room_1.slots) (hi : i + 6 ≤ L) (hL : L ≤ 384) (hR : Rel wc wm) (hC : va_P D vwCl (encC c3 ac wc) H) (hM : va_P D vwCl (encM c3 am wm) H) (hS : va_S A s.heap H locs) (hl : lv_has ls 4 [(0, .ref b), (1, .ref (ac 0)), (2, .ref (am 0)), (3, .int (nI i))])
    (kk : ∀ (H1 : Heap) (locs1 : List Loc) (wc1 wm1 : Mm), Rel wc1 wm1 → va_P D vwCl (encC c3 ac wc1) H1 → va_P D vwCl (encM c3 am wm1) H1 → va_S A s.heap H1 locs1 → W p l e room_1 s m #[Value.ref b] below meth c H1 locs1 cells slots Q (F0 m 1479 ls [])) : W p l e room_1 s m #[Value.ref b] below meth c H locs cells slots Q (F0 m 768 ls []) := by
  have hx := XC.1
  have hb := XC.2.1
  have hts := XC.2.2.2.2.1
  obtain ⟨r, h7, h8⟩ := sim_can hR (xs (i + 1))
  refine lv_aload_n hx hb dL_law_768 rfl (lv_at hl 1 rfl) ?_
  refine z_arg (k := 1) hx hb hX hbl hbA hS hl (j0 := 0) (j3 := 3) rfl rfl (by omega) hL dL_law_769 dL_law_770 dL_law_771 dL_law_772 dL_law_773 ?_
  refine z_goi (w' := wc) XC hS hM (hcm wc wm) (z_runV (As := [.int (xs (i + 1))]) (rest := []) XC gC_ok hC hS (ctX7_can l D c3 ac wc _ (xs (i + 1)) _ h7) (cwV 1 hts gL_law_X7_can rfl rfl rfl (by decide +kernel) ⟨by decide, by decide⟩) (gC0 c3 ac wc) rfl rfl rfl hl.1 rfl (Nat.le_of_ble_eq_true rfl) dL_law_774 hf) (fun H locs hC hM hS => ?_)
  refine lv_aload_n hx hb dL_law_777 rfl (lv_at hl 2 rfl) ?_
  refine z_arg (k := 1) hx hb hX hbl hbA hS hl (j0 := 0) (j3 := 3) rfl rfl (by omega) hL dL_law_778 dL_law_779 dL_law_780 dL_law_781 dL_law_782 ?_
  refine z_goi (w' := wm) XM hS hC (hmc wm wc) (z_runV (As := [.int (xs (i + 1))]) (rest := [.int r]) XM gM_ok hM hS (ctX8_can l D c3 am wm _ (xs (i + 1)) _ h8) (cwV 1 hts gL_law_X8_can rfl rfl rfl (by decide +kernel) ⟨by decide, by decide⟩) (gM0 c3 am wm) rfl rfl rfl hl.1 rfl (Nat.le_of_ble_eq_true rfl) dL_law_783 hf) (fun H locs hM hC hS => ?_)
  refine lv_icmp_eq (tgt := 1479) hx hb dL_law_786 (by decide) (fun _ => ?_) (fun c_9 => absurd rfl c_9)
  exact kk _ _ wc wm hR hC hM hS
set_option maxRecDepth 20000 in
theorem cs_19 {p : Program} {l : Launch} {e : Env} {s : State} {m : MethodId} {below : List Frame} {meth : Method} {c : Code} {H : Heap} {locs : List Loc} {Q : State → Prop} {D : va_G} {c3 : C3} {ac am : Nat → Nat} {A : Nat → Prop} {b L i : Nat} {xs : Nat → Int32} {ls : Array Slot} {wc wm : Mm} {cells slots : Nat} (XC : Cx p s m #[Value.ref b] c code 4 RL wsL_law D c3 (encC c3 ac) gC A) (XM : Cx p s m #[Value.ref b] c code 4 RL wsL_law D c3 (encM c3 am) gM A) (hcm : ∀ v w, Apart (encC c3 ac v) (encM c3 am w)) (hmc : ∀ v w, Apart (encM c3 am v) (encC c3 ac w)) (hX : va_X b L xs s s.heap) (hbl : b < s.heap.size) (hbA : ¬ A b) (hf : cells ≤ room_1.cells ∧ slots ≤ room_1.slots) (hi : i + 6 ≤ L) (hL : L ≤ 384) (hR : Rel wc wm) (hC : va_P D vwCl (encC c3 ac wc) H) (hM : va_P D vwCl (encM c3 am wm) H) (hS : va_S A s.heap H locs) (hl : lv_has ls 4 [(0, .ref b), (1, .ref (ac 0)), (2, .ref (am 0)), (3, .int (nI i))])
    (kk : ∀ (H1 : Heap) (locs1 : List Loc) (wc1 wm1 : Mm), Rel wc1 wm1 → va_P D vwCl (encC c3 ac wc1) H1 → va_P D vwCl (encM c3 am wm1) H1 → va_S A s.heap H1 locs1 → W p l e room_1 s m #[Value.ref b] below meth c H1 locs1 cells slots Q (F0 m 1479 ls [])) : W p l e room_1 s m #[Value.ref b] below meth c H locs cells slots Q (F0 m 791 ls []) := by
  have hx := XC.1
  have hb := XC.2.1
  have hts := XC.2.2.2.2.1
  obtain ⟨r, h7, h8⟩ := sim_over hR (xs (i + 1))
  refine lv_aload_n hx hb dL_law_791 rfl (lv_at hl 1 rfl) ?_
  refine z_arg (k := 1) hx hb hX hbl hbA hS hl (j0 := 0) (j3 := 3) rfl rfl (by omega) hL dL_law_792 dL_law_793 dL_law_794 dL_law_795 dL_law_796 ?_
  refine z_goi (w' := wc) XC hS hM (hcm wc wm) (z_runV (As := [.int (xs (i + 1))]) (rest := []) XC gC_ok hC hS (ctX7_over l D c3 ac wc _ (xs (i + 1)) _ h7) (cwV 1 hts gL_law_X7_over rfl rfl rfl (by decide +kernel) ⟨by decide, by decide⟩) (gC0 c3 ac wc) rfl rfl rfl hl.1 rfl (Nat.le_of_ble_eq_true rfl) dL_law_797 hf) (fun H locs hC hM hS => ?_)
  refine lv_aload_n hx hb dL_law_800 rfl (lv_at hl 2 rfl) ?_
  refine z_arg (k := 1) hx hb hX hbl hbA hS hl (j0 := 0) (j3 := 3) rfl rfl (by omega) hL dL_law_801 dL_law_802 dL_law_803 dL_law_804 dL_law_805 ?_
  refine z_goi (w' := wm) XM hS hC (hmc wm wc) (z_runV (As := [.int (xs (i + 1))]) (rest := [.int r]) XM gM_ok hM hS (ctX8_over l D c3 am wm _ (xs (i + 1)) _ h8) (cwV 1 hts gL_law_X8_over rfl rfl rfl (by decide +kernel) ⟨by decide, by decide⟩) (gM0 c3 am wm) rfl rfl rfl hl.1 rfl (Nat.le_of_ble_eq_true rfl) dL_law_806 hf) (fun H locs hM hC hS => ?_)
  refine lv_icmp_eq (tgt := 1479) hx hb dL_law_809 (by decide) (fun _ => ?_) (fun c_9 => absurd rfl c_9)
  exact kk _ _ wc wm hR hC hM hS
set_option maxRecDepth 20000 in
theorem cs_20 {p : Program} {l : Launch} {e : Env} {s : State} {m : MethodId} {below : List Frame} {meth : Method} {c : Code} {H : Heap} {locs : List Loc} {Q : State → Prop} {D : va_G} {c3 : C3} {ac am : Nat → Nat} {A : Nat → Prop} {b L i : Nat} {xs : Nat → Int32} {ls : Array Slot} {wc wm : Mm} {cells slots : Nat} (XC : Cx p s m #[Value.ref b] c code 4 RL wsL_law D c3 (encC c3 ac) gC A) (XM : Cx p s m #[Value.ref b] c code 4 RL wsL_law D c3 (encM c3 am) gM A) (hcm : ∀ v w, Apart (encC c3 ac v) (encM c3 am w)) (hmc : ∀ v w, Apart (encM c3 am v) (encC c3 ac w)) (hX : va_X b L xs s s.heap) (hbl : b < s.heap.size) (hbA : ¬ A b) (hf : cells ≤ room_1.cells ∧ slots ≤ room_1.slots) (hi : i + 6 ≤ L) (hL : L ≤ 384) (hR : Rel wc wm) (hC : va_P D vwCl (encC c3 ac wc) H) (hM : va_P D vwCl (encM c3 am wm) H) (hS : va_S A s.heap H locs) (hl : lv_has ls 4 [(0, .ref b), (1, .ref (ac 0)), (2, .ref (am 0)), (3, .int (nI i))])
    (kk : ∀ (H1 : Heap) (locs1 : List Loc) (wc1 wm1 : Mm), Rel wc1 wm1 → va_P D vwCl (encC c3 ac wc1) H1 → va_P D vwCl (encM c3 am wm1) H1 → va_S A s.heap H1 locs1 → W p l e room_1 s m #[Value.ref b] below meth c H1 locs1 cells slots Q (F0 m 1479 ls [])) : W p l e room_1 s m #[Value.ref b] below meth c H locs cells slots Q (F0 m 814 ls []) := by
  have hx := XC.1
  have hb := XC.2.1
  have hts := XC.2.2.2.2.1
  obtain ⟨r, wc1, wm1, h7, h8, hR1⟩ := sim_talk hR (xs (i + 1))
  refine lv_aload_n hx hb dL_law_814 rfl (lv_at hl 1 rfl) ?_
  refine z_arg (k := 1) hx hb hX hbl hbA hS hl (j0 := 0) (j3 := 3) rfl rfl (by omega) hL dL_law_815 dL_law_816 dL_law_817 dL_law_818 dL_law_819 ?_
  refine z_goi (w' := wc1) XC hS hM (hcm wc wm) (z_runV (As := [.int (xs (i + 1))]) (rest := []) XC gC_ok hC hS (ctX7_talk l D c3 ac wc _ (xs (i + 1)) _ _ h7) (cwV 1 hts gL_law_X7_talk rfl rfl rfl (by decide +kernel) ⟨by decide, by decide⟩) (gC0 c3 ac wc) rfl rfl rfl hl.1 rfl (Nat.le_of_ble_eq_true rfl) dL_law_820 hf) (fun H locs hC hM hS => ?_)
  refine lv_aload_n hx hb dL_law_823 rfl (lv_at hl 2 rfl) ?_
  refine z_arg (k := 1) hx hb hX hbl hbA hS hl (j0 := 0) (j3 := 3) rfl rfl (by omega) hL dL_law_824 dL_law_825 dL_law_826 dL_law_827 dL_law_828 ?_
  refine z_goi (w' := wm1) XM hS hC (hmc wm wc1) (z_runV (As := [.int (xs (i + 1))]) (rest := [.int r]) XM gM_ok hM hS (ctX8_talk l D c3 am wm _ (xs (i + 1)) _ _ h8) (cwV 1 hts gL_law_X8_talk rfl rfl rfl (by decide +kernel) ⟨by decide, by decide⟩) (gM0 c3 am wm) rfl rfl rfl hl.1 rfl (Nat.le_of_ble_eq_true rfl) dL_law_829 hf) (fun H locs hM hC hS => ?_)
  refine lv_icmp_eq (tgt := 1479) hx hb dL_law_832 (by decide) (fun _ => ?_) (fun c_9 => absurd rfl c_9)
  exact kk _ _ wc1 wm1 hR1 hC hM hS
set_option maxRecDepth 20000 in
theorem cs_21 {p : Program} {l : Launch} {e : Env} {s : State} {m : MethodId} {below : List Frame} {meth : Method} {c : Code} {H : Heap} {locs : List Loc} {Q : State → Prop} {D : va_G} {c3 : C3} {ac am : Nat → Nat} {A : Nat → Prop} {b L i : Nat} {xs : Nat → Int32} {ls : Array Slot} {wc wm : Mm} {cells slots : Nat} (XC : Cx p s m #[Value.ref b] c code 4 RL wsL_law D c3 (encC c3 ac) gC A) (XM : Cx p s m #[Value.ref b] c code 4 RL wsL_law D c3 (encM c3 am) gM A) (hcm : ∀ v w, Apart (encC c3 ac v) (encM c3 am w)) (hmc : ∀ v w, Apart (encM c3 am v) (encC c3 ac w)) (hX : va_X b L xs s s.heap) (hbl : b < s.heap.size) (hbA : ¬ A b) (hf : cells ≤ room_1.cells ∧ slots ≤ room_1.slots) (hi : i + 6 ≤ L) (hL : L ≤ 384) (hR : Rel wc wm) (hC : va_P D vwCl (encC c3 ac wc) H) (hM : va_P D vwCl (encM c3 am wm) H) (hS : va_S A s.heap H locs) (hl : lv_has ls 4 [(0, .ref b), (1, .ref (ac 0)), (2, .ref (am 0)), (3, .int (nI i))])
    (kk : ∀ (H1 : Heap) (locs1 : List Loc) (wc1 wm1 : Mm), Rel wc1 wm1 → va_P D vwCl (encC c3 ac wc1) H1 → va_P D vwCl (encM c3 am wm1) H1 → va_S A s.heap H1 locs1 → W p l e room_1 s m #[Value.ref b] below meth c H1 locs1 cells slots Q (F0 m 1479 ls [])) : W p l e room_1 s m #[Value.ref b] below meth c H locs cells slots Q (F0 m 837 ls []) := by
  have hx := XC.1
  have hb := XC.2.1
  have hts := XC.2.2.2.2.1
  obtain ⟨r, h7, h8⟩ := sim_waits hR (xs (i + 1)) (xs (i + 2))
  refine lv_aload_n hx hb dL_law_837 rfl (lv_at hl 1 rfl) ?_
  refine z_arg (k := 1) hx hb hX hbl hbA hS hl (j0 := 0) (j3 := 3) rfl rfl (by omega) hL dL_law_838 dL_law_839 dL_law_840 dL_law_841 dL_law_842 ?_
  refine z_arg (k := 2) hx hb hX hbl hbA hS hl (j0 := 0) (j3 := 3) rfl rfl (by omega) hL dL_law_843 dL_law_844 dL_law_845 dL_law_846 dL_law_847 ?_
  refine z_goi (w' := wc) XC hS hM (hcm wc wm) (z_runV (As := [.int (xs (i + 1)), .int (xs (i + 2))]) (rest := []) XC gC_ok hC hS (ctX7_waits l D c3 ac wc _ (xs (i + 1)) (xs (i + 2)) _ h7) (cwV 2 hts gL_law_X7_waits rfl rfl rfl (by decide +kernel) ⟨by decide, by decide⟩) (gC0 c3 ac wc) rfl rfl rfl hl.1 rfl (Nat.le_of_ble_eq_true rfl) dL_law_848 hf) (fun H locs hC hM hS => ?_)
  refine lv_aload_n hx hb dL_law_851 rfl (lv_at hl 2 rfl) ?_
  refine z_arg (k := 1) hx hb hX hbl hbA hS hl (j0 := 0) (j3 := 3) rfl rfl (by omega) hL dL_law_852 dL_law_853 dL_law_854 dL_law_855 dL_law_856 ?_
  refine z_arg (k := 2) hx hb hX hbl hbA hS hl (j0 := 0) (j3 := 3) rfl rfl (by omega) hL dL_law_857 dL_law_858 dL_law_859 dL_law_860 dL_law_861 ?_
  refine z_goi (w' := wm) XM hS hC (hmc wm wc) (z_runV (As := [.int (xs (i + 1)), .int (xs (i + 2))]) (rest := [.int r]) XM gM_ok hM hS (ctX8_waits l D c3 am wm _ (xs (i + 1)) (xs (i + 2)) _ h8) (cwV 2 hts gL_law_X8_waits rfl rfl rfl (by decide +kernel) ⟨by decide, by decide⟩) (gM0 c3 am wm) rfl rfl rfl hl.1 rfl (Nat.le_of_ble_eq_true rfl) dL_law_862 hf) (fun H locs hM hC hS => ?_)
  refine lv_icmp_eq (tgt := 1479) hx hb dL_law_865 (by decide) (fun _ => ?_) (fun c_9 => absurd rfl c_9)
  exact kk _ _ wc wm hR hC hM hS

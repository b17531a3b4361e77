theorem iwX8_digest_X8 : ∀ w ∈ wsX80, w ∈ wsX8_digest := fun _ h => List.mem_cons_of_mem _ (List.mem_append_right _ h)
theorem lkX8_digest_7 : Cond.fieldLink RX8 7 "StuckDoorModel" "row" "[I" ∈ wsX8_digest := by decide +kernel
theorem lkX8_digest_13 : Cond.fieldLink RX8 13 "StuckDoorModel" "bears" "[I" ∈ wsX8_digest := by decide +kernel
theorem lkX8_digest_25 : Cond.fieldLink RX8 25 "StuckDoorModel" "sizes" "[I" ∈ wsX8_digest := by decide +kernel
theorem lkX8_digest_28 : Cond.fieldLink RX8 28 "StuckDoorModel" "items" "[I" ∈ wsX8_digest := by decide +kernel
theorem lkX8_digest_31 : Cond.fieldLink RX8 31 "StuckDoorModel" "lengths" "[I" ∈ wsX8_digest := by decide +kernel
theorem lkX8_digest_34 : Cond.fieldLink RX8 34 "StuckDoorModel" "bytes" "[I" ∈ wsX8_digest := by decide +kernel
theorem lkX8_digest_164 : Cond.fieldLink RX8 164 "StuckDoorModel" "people" "I" ∈ wsX8_digest := by decide +kernel
theorem lkX8_digest_167 : Cond.fieldLink RX8 167 "StuckDoorModel" "sayings" "I" ∈ wsX8_digest := by decide +kernel
theorem lkX8_digest_170 : Cond.fieldLink RX8 170 "StuckDoorModel" "stuck" "I" ∈ wsX8_digest := by decide +kernel
def rmX8_digest : Room := { frames := 4, cells := 0, slots := 0, locals := 86 }
def fX8_digest_234 (k212 : Int64 → Int32 → Option (Int64)) (x3 : Int32) (w : Mm) : Nat → Int64 → Int32 → Option (Int64)
  | 0, _, _ => none
  | n + 1, y1, x4 => gd (inb x3 4 = true) ((if (w.1 8 x3.toNatClampNeg) ≤ x4 then k212 y1 (x3 + 1) else gd (inb ((60 * x3) + x4) 240 = true) (nm ((31 * y1) + ((w.1 9 ((60 * x3) + x4).toNatClampNeg).toInt64)) (fun y1_4 => fX8_digest_234 k212 x3 w n y1_4 (x4 + 1)))))
set_option maxRecDepth 20000 in
theorem bX8_digest_234 {p : Program} {l : Launch} {e : Env} {s : State} {m : MethodId} {args : Array Value} {below : List Frame} {meth : Method} {c : Code} {Q : State → Prop} {D : va_G} {c3 : C3} {ad : Nat → Nat} {A : Nat → Prop} {r : Int64} {w : Mm} (X : Cx p s m args c cX8_digest 5 RX8 wsX8_digest D c3 (encM c3 ad) gM A) (hret : Rl p l e (rmX8_digest) s m args below meth c Q cX8_digest D (encM c3 ad) A r w) {k212 : Int64 → Int32 → Option (Int64)} (hk212 : ∀ (y1 : Int64) (x3 : Int32) (H : Heap) (locs : List Loc) (ls : Array Slot), va_P D vwCl ((encM c3 ad) w) H → va_S A s.heap H locs → lv_has ls 5 [(0, .ref (ad 0)), (1, .long y1), (3, .int x3)] → k212 y1 x3 = some r → W p l e (rmX8_digest) s m args below meth c H locs 0 0 Q (F0 m 212 ls [])) : ∀ (x3 : Int32) (n : Nat) (y1 : Int64) (x4 : Int32) (H : Heap) (locs : List Loc) (ls : Array Slot), va_P D vwCl ((encM c3 ad) w) H → va_S A s.heap H locs → lv_has ls 5 [(0, .ref (ad 0)), (1, .long y1), (3, .int x3), (4, .int x4)] → fX8_digest_234 k212 x3 w n y1 x4 = some r → W p l e (rmX8_digest) s m args below meth c H locs 0 0 Q (F0 m 234 ls []) := by
  have hx := X.1
  have hb := X.2.1
  have hml := X.2.2.1
  have hown := X.2.2.2.1
  have hts := X.2.2.2.2.1
  intro x3 n
  induction n with
  | zero =>
    intro y1 x4 H locs ls hP hS hl h
    exact absurd h (by simp [fX8_digest_234])
  | succ n ih =>
    intro y1 x4 H locs ls hP hS hl h
    rw [fX8_digest_234] at h
    refine lv_iload hx hb dX8_digest_234 (lv_at hl 3 rfl) ?_
    refine lv_aload_n hx hb dX8_digest_236 rfl (lv_at hl 0 rfl) ?_
    refine x_get (rest := [.int x4]) X hP (gM0 c3 ad w) rfl iwX8_digest_X8 10 (by decide) lkX8_digest_31 rfl dX8_digest_237 ?_
    refine lv_iload_n hx hb dX8_digest_240 rfl (lv_at hl 2 rfl) ?_
    obtain ⟨g_1, h⟩ := gd_s h
    refine x_iald X hP (gM8 c3 ad w) g_1 dX8_digest_241 ?_
    refine lv_icmp_ge (tgt := 271) hx hb dX8_digest_242 (by decide) (fun c_2 => ?_) (fun c_2 => ?_)
    · replace h := it_p c_2 h
      refine lv_iinc (v := (x3 + 1)) (lv' := [(3, .int (x3 + 1)), (0, .ref (ad 0)), (1, .long y1), (4, .int x4)]) hx hb dX8_digest_271 hl (k := 2) rfl rfl (by decide) rfl (fun ls hl => ?_)
      refine lv_goto (tgt := 212) hx hb dX8_digest_274 (by decide) ?_
      exact hk212 y1 (x3 + 1) _ _ _ hP hS (lv_sub hl [1, 2, 0] rfl) h
    · replace h := it_n c_2 h
      refine lv_ldc2 (v := 31) hx hb hown (hts (.constantLong RX8 321 (31)) (by decide +kernel)) dX8_digest_245 ?_
      refine lv_lload_n hx hb dX8_digest_248 rfl (lv_at hl 1 rfl) ?_
      refine lv_lmul hx hb dX8_digest_249 ?_
      refine lv_aload_n hx hb dX8_digest_250 rfl (lv_at hl 0 rfl) ?_
      refine x_get (rest := [.long (31 * y1)]) X hP (gM0 c3 ad w) rfl iwX8_digest_X8 11 (by decide) lkX8_digest_34 rfl dX8_digest_251 ?_
      refine lv_bipush (v := 60) hx hb dX8_digest_254 (by decide) ?_
      refine lv_iload_n hx hb dX8_digest_256 rfl (lv_at hl 2 rfl) ?_
      refine lv_imul hx hb dX8_digest_257 ?_
      refine lv_iload hx hb dX8_digest_258 (lv_at hl 3 rfl) ?_
      refine lv_iadd hx hb dX8_digest_260 ?_
      obtain ⟨g_3, h⟩ := gd_s h
      refine x_iald X hP (gM9 c3 ad w) g_3 dX8_digest_261 ?_
      refine lv_i2l (v := (w.1 9 ((60 * x3) + x4).toNatClampNeg).toInt64) hx hb dX8_digest_262 rfl ?_
      refine lv_ladd hx hb dX8_digest_263 ?_
      refine x_nml h (fun y1_4 h => ?_)
      refine lv_lstore_n (lv' := [(1, .long y1_4), (0, .ref (ad 0)), (3, .int x3), (4, .int x4)]) hx hb dX8_digest_264 rfl hl (by decide) rfl (fun ls hl => ?_)
      refine lv_iinc (v := (x4 + 1)) (lv' := [(4, .int (x4 + 1)), (1, .long y1_4), (0, .ref (ad 0)), (3, .int x3)]) hx hb dX8_digest_265 hl (k := 3) rfl rfl (by decide) rfl (fun ls hl => ?_)
      refine lv_goto (tgt := 234) hx hb dX8_digest_268 (by decide) ?_
      exact ih y1_4 (x4 + 1) _ _ _ hP hS (lv_sub hl [2, 1, 3, 0] rfl) h
def fX8_digest_212 (w : Mm) : Nat → Int64 → Int32 → Option (Int64)
  | 0, _, _ => none
  | n + 1, y1, x3 => (if 4 ≤ x3 then some y1 else gd (inb x3 4 = true) (nm ((31 * y1) + ((w.1 8 x3.toNatClampNeg).toInt64)) (fun y1_7 => fX8_digest_234 (fX8_digest_212 w n) x3 w FU y1_7 0)))
set_option maxRecDepth 20000 in
theorem bX8_digest_212 {p : Program} {l : Launch} {e : Env} {s : State} {m : MethodId} {args : Array Value} {below : List Frame} {meth : Method} {c : Code} {Q : State → Prop} {D : va_G} {c3 : C3} {ad : Nat → Nat} {A : Nat → Prop} {r : Int64} {w : Mm} (X : Cx p s m args c cX8_digest 5 RX8 wsX8_digest D c3 (encM c3 ad) gM A) (hret : Rl p l e (rmX8_digest) s m args below meth c Q cX8_digest D (encM c3 ad) A r w) : ∀ (n : Nat) (y1 : Int64) (x3 : Int32) (H : Heap) (locs : List Loc) (ls : Array Slot), va_P D vwCl ((encM c3 ad) w) H → va_S A s.heap H locs → lv_has ls 5 [(0, .ref (ad 0)), (1, .long y1), (3, .int x3)] → fX8_digest_212 w n y1 x3 = some r → W p l e (rmX8_digest) s m args below meth c H locs 0 0 Q (F0 m 212 ls []) := by
  have hx := X.1
  have hb := X.2.1
  have hml := X.2.2.1
  have hown := X.2.2.2.1
  have hts := X.2.2.2.2.1
  intro n
  induction n with
  | zero =>
    intro y1 x3 H locs ls hP hS hl h
    exact absurd h (by simp [fX8_digest_212])
  | succ n ih =>
    intro y1 x3 H locs ls hP hS hl h
    rw [fX8_digest_212] at h
    refine lv_iload_n hx hb dX8_digest_212 rfl (lv_at hl 2 rfl) ?_
    refine lv_iconst (v := 4) hx hb dX8_digest_213 (by decide) ?_
    refine lv_icmp_ge (tgt := 277) hx hb dX8_digest_214 (by decide) (fun c_5 => ?_) (fun c_5 => ?_)
    · replace h := it_p c_5 h
      refine lv_lload_n hx hb dX8_digest_277 rfl (lv_at hl 1 rfl) ?_
      obtain rfl := Option.some.inj h
      exact hret _ _ _ _ hP hS dX8_digest_278
    · replace h := it_n c_5 h
      refine lv_ldc2 (v := 31) hx hb hown (hts (.constantLong RX8 321 (31)) (by decide +kernel)) dX8_digest_217 ?_
      refine lv_lload_n hx hb dX8_digest_220 rfl (lv_at hl 1 rfl) ?_
      refine lv_lmul hx hb dX8_digest_221 ?_
      refine lv_aload_n hx hb dX8_digest_222 rfl (lv_at hl 0 rfl) ?_
      refine x_get (rest := [.long (31 * y1)]) X hP (gM0 c3 ad w) rfl iwX8_digest_X8 10 (by decide) lkX8_digest_31 rfl dX8_digest_223 ?_
      refine lv_iload_n hx hb dX8_digest_226 rfl (lv_at hl 2 rfl) ?_
      obtain ⟨g_6, h⟩ := gd_s h
      refine x_iald X hP (gM8 c3 ad w) g_6 dX8_digest_227 ?_
      refine lv_i2l (v := (w.1 8 x3.toNatClampNeg).toInt64) hx hb dX8_digest_228 rfl ?_
      refine lv_ladd hx hb dX8_digest_229 ?_
      refine x_nml h (fun y1_7 h => ?_)
      refine lv_lstore_n (lv' := [(1, .long y1_7), (0, .ref (ad 0)), (3, .int x3)]) hx hb dX8_digest_230 rfl hl (by decide) rfl (fun ls hl => ?_)
      refine lv_iconst (v := 0) hx hb dX8_digest_231 (by decide) ?_
      refine lv_istore (lv' := [(4, .int 0), (1, .long y1_7), (0, .ref (ad 0)), (3, .int x3)]) hx hb dX8_digest_232 hl (by decide) rfl (fun ls hl => ?_)
      exact bX8_digest_234 (k212 := (fX8_digest_212 w n)) X hret ih x3 FU y1_7 0 _ _ _ hP hS (lv_sub hl [2, 1, 3, 0] rfl) h
def fX8_digest_167 (k144 : Int64 → Int32 → Option (Int64)) (x3 : Int32) (w : Mm) : Nat → Int64 → Int32 → Option (Int64)
  | 0, _, _ => none
  | n + 1, y1, x4 => gd (inb x3 6 = true) ((if (w.1 6 x3.toNatClampNeg) ≤ x4 then k144 y1 (x3 + 1) else gd (inb ((40 * x3) + x4) 240 = true) (nm ((31 * y1) + ((w.1 7 ((40 * x3) + x4).toNatClampNeg).toInt64)) (fun y1_11 => fX8_digest_167 k144 x3 w n y1_11 (x4 + 1)))))
set_option maxRecDepth 20000 in
theorem bX8_digest_167 {p : Program} {l : Launch} {e : Env} {s : State} {m : MethodId} {args : Array Value} {below : List Frame} {meth : Method} {c : Code} {Q : State → Prop} {D : va_G} {c3 : C3} {ad : Nat → Nat} {A : Nat → Prop} {r : Int64} {w : Mm} (X : Cx p s m args c cX8_digest 5 RX8 wsX8_digest D c3 (encM c3 ad) gM A) (hret : Rl p l e (rmX8_digest) s m args below meth c Q cX8_digest D (encM c3 ad) A r w) {k144 : Int64 → Int32 → Option (Int64)} (hk144 : ∀ (y1 : Int64) (x3 : Int32) (H : Heap) (locs : List Loc) (ls : Array Slot), va_P D vwCl ((encM c3 ad) w) H → va_S A s.heap H locs → lv_has ls 5 [(0, .ref (ad 0)), (1, .long y1), (3, .int x3)] → k144 y1 x3 = some r → W p l e (rmX8_digest) s m args below meth c H locs 0 0 Q (F0 m 144 ls [])) : ∀ (x3 : Int32) (n : Nat) (y1 : Int64) (x4 : Int32) (H : Heap) (locs : List Loc) (ls : Array Slot), va_P D vwCl ((encM c3 ad) w) H → va_S A s.heap H locs → lv_has ls 5 [(0, .ref (ad 0)), (1, .long y1), (3, .int x3), (4, .int x4)] → fX8_digest_167 k144 x3 w n y1 x4 = some r → W p l e (rmX8_digest) s m args below meth c H locs 0 0 Q (F0 m 167 ls []) := by
  have hx := X.1
  have hb := X.2.1
  have hml := X.2.2.1
  have hown := X.2.2.2.1
  have hts := X.2.2.2.2.1
  intro x3 n
  induction n with
  | zero =>
    intro y1 x4 H locs ls hP hS hl h
    exact absurd h (by simp [fX8_digest_167])
  | succ n ih =>
    intro y1 x4 H locs ls hP hS hl h
    rw [fX8_digest_167] at h
    refine lv_iload hx hb dX8_digest_167 (lv_at hl 3 rfl) ?_
    refine lv_aload_n hx hb dX8_digest_169 rfl (lv_at hl 0 rfl) ?_
    refine x_get (rest := [.int x4]) X hP (gM0 c3 ad w) rfl iwX8_digest_X8 8 (by decide) lkX8_digest_25 rfl dX8_digest_170 ?_
    refine lv_iload_n hx hb dX8_digest_173 rfl (lv_at hl 2 rfl) ?_
    obtain ⟨g_8, h⟩ := gd_s h
    refine x_iald X hP (gM6 c3 ad w) g_8 dX8_digest_174 ?_
    refine lv_icmp_ge (tgt := 204) hx hb dX8_digest_175 (by decide) (fun c_9 => ?_) (fun c_9 => ?_)
    · replace h := it_p c_9 h
      refine lv_iinc (v := (x3 + 1)) (lv' := [(3, .int (x3 + 1)), (0, .ref (ad 0)), (1, .long y1), (4, .int x4)]) hx hb dX8_digest_204 hl (k := 2) rfl rfl (by decide) rfl (fun ls hl => ?_)
      refine lv_goto (tgt := 144) hx hb dX8_digest_207 (by decide) ?_
      exact hk144 y1 (x3 + 1) _ _ _ hP hS (lv_sub hl [1, 2, 0] rfl) h
    · replace h := it_n c_9 h
      refine lv_ldc2 (v := 31) hx hb hown (hts (.constantLong RX8 321 (31)) (by decide +kernel)) dX8_digest_178 ?_
      refine lv_lload_n hx hb dX8_digest_181 rfl (lv_at hl 1 rfl) ?_
      refine lv_lmul hx hb dX8_digest_182 ?_
      refine lv_aload_n hx hb dX8_digest_183 rfl (lv_at hl 0 rfl) ?_
      refine x_get (rest := [.long (31 * y1)]) X hP (gM0 c3 ad w) rfl iwX8_digest_X8 9 (by decide) lkX8_digest_28 rfl dX8_digest_184 ?_
      refine lv_bipush (v := 40) hx hb dX8_digest_187 (by decide) ?_
      refine lv_iload_n hx hb dX8_digest_189 rfl (lv_at hl 2 rfl) ?_
      refine lv_imul hx hb dX8_digest_190 ?_
      refine lv_iload hx hb dX8_digest_191 (lv_at hl 3 rfl) ?_
      refine lv_iadd hx hb dX8_digest_193 ?_
      obtain ⟨g_10, h⟩ := gd_s h
      refine x_iald X hP (gM7 c3 ad w) g_10 dX8_digest_194 ?_
      refine lv_i2l (v := (w.1 7 ((40 * x3) + x4).toNatClampNeg).toInt64) hx hb dX8_digest_195 rfl ?_
      refine lv_ladd hx hb dX8_digest_196 ?_
      refine x_nml h (fun y1_11 h => ?_)
      refine lv_lstore_n (lv' := [(1, .long y1_11), (0, .ref (ad 0)), (3, .int x3), (4, .int x4)]) hx hb dX8_digest_197 rfl hl (by decide) rfl (fun ls hl => ?_)
      refine lv_iinc (v := (x4 + 1)) (lv' := [(4, .int (x4 + 1)), (1, .long y1_11), (0, .ref (ad 0)), (3, .int x3)]) hx hb dX8_digest_198 hl (k := 3) rfl rfl (by decide) rfl (fun ls hl => ?_)
      refine lv_goto (tgt := 167) hx hb dX8_digest_201 (by decide) ?_
      exact ih y1_11 (x4 + 1) _ _ _ hP hS (lv_sub hl [2, 1, 3, 0] rfl) h
def fX8_digest_144 (w : Mm) : Nat → Int64 → Int32 → Option (Int64)
  | 0, _, _ => none
  | n + 1, y1, x3 => (if 6 ≤ x3 then fX8_digest_212 w FU y1 0 else gd (inb x3 6 = true) (nm ((31 * y1) + ((w.1 6 x3.toNatClampNeg).toInt64)) (fun y1_14 => fX8_digest_167 (fX8_digest_144 w n) x3 w FU y1_14 0)))
set_option maxRecDepth 20000 in
theorem bX8_digest_144 {p : Program} {l : Launch} {e : Env} {s : State} {m : MethodId} {args : Array Value} {below : List Frame} {meth : Method} {c : Code} {Q : State → Prop} {D : va_G} {c3 : C3} {ad : Nat → Nat} {A : Nat → Prop} {r : Int64} {w : Mm} (X : Cx p s m args c cX8_digest 5 RX8 wsX8_digest D c3 (encM c3 ad) gM A) (hret : Rl p l e (rmX8_digest) s m args below meth c Q cX8_digest D (encM c3 ad) A r w) : ∀ (n : Nat) (y1 : Int64) (x3 : Int32) (H : Heap) (locs : List Loc) (ls : Array Slot), va_P D vwCl ((encM c3 ad) w) H → va_S A s.heap H locs → lv_has ls 5 [(0, .ref (ad 0)), (1, .long y1), (3, .int x3)] → fX8_digest_144 w n y1 x3 = some r → W p l e (rmX8_digest) s m args below meth c H locs 0 0 Q (F0 m 144 ls []) := by
  have hx := X.1
  have hb := X.2.1
  have hml := X.2.2.1
  have hown := X.2.2.2.1
  have hts := X.2.2.2.2.1
  intro n
  induction n with
  | zero =>
    intro y1 x3 H locs ls hP hS hl h
    exact absurd h (by simp [fX8_digest_144])
  | succ n ih =>
    intro y1 x3 H locs ls hP hS hl h
    rw [fX8_digest_144] at h
    refine lv_iload_n hx hb dX8_digest_144 rfl (lv_at hl 2 rfl) ?_
    refine lv_bipush (v := 6) hx hb dX8_digest_145 (by decide) ?_
    refine lv_icmp_ge (tgt := 210) hx hb dX8_digest_147 (by decide) (fun c_12 => ?_) (fun c_12 => ?_)
    · replace h := it_p c_12 h
      refine lv_iconst (v := 0) hx hb dX8_digest_210 (by decide) ?_
      refine lv_istore_n (lv' := [(3, .int 0), (0, .ref (ad 0)), (1, .long y1)]) hx hb dX8_digest_211 rfl hl (by decide) rfl (fun ls hl => ?_)
      exact bX8_digest_212 X hret FU y1 0 _ _ _ hP hS (lv_sub hl [1, 2, 0] rfl) h
    · replace h := it_n c_12 h
      refine lv_ldc2 (v := 31) hx hb hown (hts (.constantLong RX8 321 (31)) (by decide +kernel)) dX8_digest_150 ?_
      refine lv_lload_n hx hb dX8_digest_153 rfl (lv_at hl 1 rfl) ?_
      refine lv_lmul hx hb dX8_digest_154 ?_
      refine lv_aload_n hx hb dX8_digest_155 rfl (lv_at hl 0 rfl) ?_
      refine x_get (rest := [.long (31 * y1)]) X hP (gM0 c3 ad w) rfl iwX8_digest_X8 8 (by decide) lkX8_digest_25 rfl dX8_digest_156 ?_
      refine lv_iload_n hx hb dX8_digest_159 rfl (lv_at hl 2 rfl) ?_
      obtain ⟨g_13, h⟩ := gd_s h
      refine x_iald X hP (gM6 c3 ad w) g_13 dX8_digest_160 ?_
      refine lv_i2l (v := (w.1 6 x3.toNatClampNeg).toInt64) hx hb dX8_digest_161 rfl ?_
      refine lv_ladd hx hb dX8_digest_162 ?_
      refine x_nml h (fun y1_14 h => ?_)
      refine lv_lstore_n (lv' := [(1, .long y1_14), (0, .ref (ad 0)), (3, .int x3)]) hx hb dX8_digest_163 rfl hl (by decide) rfl (fun ls hl => ?_)
      refine lv_iconst (v := 0) hx hb dX8_digest_164 (by decide) ?_
      refine lv_istore (lv' := [(4, .int 0), (1, .long y1_14), (0, .ref (ad 0)), (3, .int x3)]) hx hb dX8_digest_165 hl (by decide) rfl (fun ls hl => ?_)
      exact bX8_digest_167 (k144 := (fX8_digest_144 w n)) X hret ih x3 FU y1_14 0 _ _ _ hP hS (lv_sub hl [2, 1, 3, 0] rfl) h
def fX8_digest_111 (w : Mm) : Nat → Int64 → Int32 → Option (Int64)
  | 0, _, _ => none
  | n + 1, y1, x3 => (if 4 ≤ x3 then fX8_digest_144 w FU y1 0 else gd (inb ((411 * x3) + 0) 1655 = true) (nm ((31 * y1) + ((w.1 1 ((411 * x3) + 0).toNatClampNeg).toInt64)) (fun y1_17 => fX8_digest_111 w n y1_17 (x3 + 1))))
set_option maxRecDepth 20000 in
theorem bX8_digest_111 {p : Program} {l : Launch} {e : Env} {s : State} {m : MethodId} {args : Array Value} {below : List Frame} {meth : Method} {c : Code} {Q : State → Prop} {D : va_G} {c3 : C3} {ad : Nat → Nat} {A : Nat → Prop} {r : Int64} {w : Mm} (X : Cx p s m args c cX8_digest 5 RX8 wsX8_digest D c3 (encM c3 ad) gM A) (hret : Rl p l e (rmX8_digest) s m args below meth c Q cX8_digest D (encM c3 ad) A r w) : ∀ (n : Nat) (y1 : Int64) (x3 : Int32) (H : Heap) (locs : List Loc) (ls : Array Slot), va_P D vwCl ((encM c3 ad) w) H → va_S A s.heap H locs → lv_has ls 5 [(0, .ref (ad 0)), (1, .long y1), (3, .int x3)] → fX8_digest_111 w n y1 x3 = some r → W p l e (rmX8_digest) s m args below meth c H locs 0 0 Q (F0 m 111 ls []) := by
  have hx := X.1
  have hb := X.2.1
  have hml := X.2.2.1
  have hown := X.2.2.2.1
  have hts := X.2.2.2.2.1
  intro n
  induction n with
  | zero =>
    intro y1 x3 H locs ls hP hS hl h
    exact absurd h (by simp [fX8_digest_111])
  | succ n ih =>
    intro y1 x3 H locs ls hP hS hl h
    rw [fX8_digest_111] at h
    refine lv_iload_n hx hb dX8_digest_111 rfl (lv_at hl 2 rfl) ?_
    refine lv_iconst (v := 4) hx hb dX8_digest_112 (by decide) ?_
    refine lv_icmp_ge (tgt := 142) hx hb dX8_digest_113 (by decide) (fun c_15 => ?_) (fun c_15 => ?_)
    · replace h := it_p c_15 h
      refine lv_iconst (v := 0) hx hb dX8_digest_142 (by decide) ?_
      refine lv_istore_n (lv' := [(3, .int 0), (0, .ref (ad 0)), (1, .long y1)]) hx hb dX8_digest_143 rfl hl (by decide) rfl (fun ls hl => ?_)
      exact bX8_digest_144 X hret FU y1 0 _ _ _ hP hS (lv_sub hl [1, 2, 0] rfl) h
    · replace h := it_n c_15 h
      refine lv_ldc2 (v := 31) hx hb hown (hts (.constantLong RX8 321 (31)) (by decide +kernel)) dX8_digest_116 ?_
      refine lv_lload_n hx hb dX8_digest_119 rfl (lv_at hl 1 rfl) ?_
      refine lv_lmul hx hb dX8_digest_120 ?_
      refine lv_aload_n hx hb dX8_digest_121 rfl (lv_at hl 0 rfl) ?_
      refine x_get (rest := [.long (31 * y1)]) X hP (gM0 c3 ad w) rfl iwX8_digest_X8 0 (by decide) lkX8_digest_7 rfl dX8_digest_122 ?_
      refine lv_sipush (v := 411) hx hb dX8_digest_125 (by decide) ?_
      refine lv_iload_n hx hb dX8_digest_128 rfl (lv_at hl 2 rfl) ?_
      refine lv_imul hx hb dX8_digest_129 ?_
      refine lv_iconst (v := 0) hx hb dX8_digest_130 (by decide) ?_
      refine lv_iadd hx hb dX8_digest_131 ?_
      obtain ⟨g_16, h⟩ := gd_s h
      refine x_iald X hP (gM1 c3 ad w) g_16 dX8_digest_132 ?_
      refine lv_i2l (v := (w.1 1 ((411 * x3) + 0).toNatClampNeg).toInt64) hx hb dX8_digest_133 rfl ?_
      refine lv_ladd hx hb dX8_digest_134 ?_
      refine x_nml h (fun y1_17 h => ?_)
      refine lv_lstore_n (lv' := [(1, .long y1_17), (0, .ref (ad 0)), (3, .int x3)]) hx hb dX8_digest_135 rfl hl (by decide) rfl (fun ls hl => ?_)
      refine lv_iinc (v := (x3 + 1)) (lv' := [(3, .int (x3 + 1)), (1, .long y1_17), (0, .ref (ad 0))]) hx hb dX8_digest_136 hl (k := 2) rfl rfl (by decide) rfl (fun ls hl => ?_)
      refine lv_goto (tgt := 111) hx hb dX8_digest_139 (by decide) ?_
      exact ih y1_17 (x3 + 1) _ _ _ hP hS (lv_sub hl [2, 1, 0] rfl) h
def fX8_digest_63 (w : Mm) : Nat → Int64 → Int32 → Option (Int64)
  | 0, _, _ => none
  | n + 1, y1, x3 => (if (5 * (w.1 0 3)) ≤ x3 then nm ((31 * y1) + ((w.1 0 7).toInt64)) (fun y1_19 => fX8_digest_111 w FU y1_19 1) else bo (fX8_toldOf (x3 / 5) (x3 - x3 / 5 * 5) w) (fun r_21 => nm ((31 * y1) + r_21.toInt64) (fun y1_23 => fX8_digest_63 w n y1_23 (x3 + 1))))
set_option maxRecDepth 20000 in
theorem bX8_digest_63 {p : Program} {l : Launch} {e : Env} {s : State} {m : MethodId} {args : Array Value} {below : List Frame} {meth : Method} {c : Code} {Q : State → Prop} {D : va_G} {c3 : C3} {ad : Nat → Nat} {A : Nat → Prop} {r : Int64} {w : Mm} (X : Cx p s m args c cX8_digest 5 RX8 wsX8_digest D c3 (encM c3 ad) gM A) (hret : Rl p l e (rmX8_digest) s m args below meth c Q cX8_digest D (encM c3 ad) A r w) : ∀ (n : Nat) (y1 : Int64) (x3 : Int32) (H : Heap) (locs : List Loc) (ls : Array Slot), va_P D vwCl ((encM c3 ad) w) H → va_S A s.heap H locs → lv_has ls 5 [(0, .ref (ad 0)), (1, .long y1), (3, .int x3)] → fX8_digest_63 w n y1 x3 = some r → W p l e (rmX8_digest) s m args below meth c H locs 0 0 Q (F0 m 63 ls []) := by
  have hx := X.1
  have hb := X.2.1
  have hml := X.2.2.1
  have hown := X.2.2.2.1
  have hts := X.2.2.2.2.1
  intro n
  induction n with
  | zero =>
    intro y1 x3 H locs ls hP hS hl h
    exact absurd h (by simp [fX8_digest_63])
  | succ n ih =>
    intro y1 x3 H locs ls hP hS hl h
    rw [fX8_digest_63] at h
    refine lv_iload_n hx hb dX8_digest_63 rfl (lv_at hl 2 rfl) ?_
    refine lv_iconst (v := 5) hx hb dX8_digest_64 (by decide) ?_
    refine lv_aload_n hx hb dX8_digest_65 rfl (lv_at hl 0 rfl) ?_
    refine x_get (rest := [.int 5, .int x3]) X hP (gM0 c3 ad w) rfl iwX8_digest_X8 3 (by decide) lkX8_digest_167 rfl dX8_digest_66 ?_
    refine lv_imul hx hb dX8_digest_69 ?_
    refine lv_icmp_ge (tgt := 97) hx hb dX8_digest_70 (by decide) (fun c_18 => ?_) (fun c_18 => ?_)
    · replace h := it_p c_18 h
      refine lv_ldc2 (v := 31) hx hb hown (hts (.constantLong RX8 321 (31)) (by decide +kernel)) dX8_digest_97 ?_
      refine lv_lload_n hx hb dX8_digest_100 rfl (lv_at hl 1 rfl) ?_
      refine lv_lmul hx hb dX8_digest_101 ?_
      refine lv_aload_n hx hb dX8_digest_102 rfl (lv_at hl 0 rfl) ?_
      refine x_get (rest := [.long (31 * y1)]) X hP (gM0 c3 ad w) rfl iwX8_digest_X8 7 (by decide) lkX8_digest_170 rfl dX8_digest_103 ?_
      refine lv_i2l (v := (w.1 0 7).toInt64) hx hb dX8_digest_106 rfl ?_
      refine lv_ladd hx hb dX8_digest_107 ?_
      refine x_nml h (fun y1_19 h => ?_)
      refine lv_lstore_n (lv' := [(1, .long y1_19), (0, .ref (ad 0)), (3, .int x3)]) hx hb dX8_digest_108 rfl hl (by decide) rfl (fun ls hl => ?_)
      refine lv_iconst (v := 1) hx hb dX8_digest_109 (by decide) ?_
      refine lv_istore_n (lv' := [(3, .int 1), (1, .long y1_19), (0, .ref (ad 0))]) hx hb dX8_digest_110 rfl hl (by decide) rfl (fun ls hl => ?_)
      exact bX8_digest_111 X hret FU y1_19 1 _ _ _ hP hS (lv_sub hl [2, 1, 0] rfl) h
    · replace h := it_n c_18 h
      refine lv_ldc2 (v := 31) hx hb hown (hts (.constantLong RX8 321 (31)) (by decide +kernel)) dX8_digest_73 ?_
      refine lv_lload_n hx hb dX8_digest_76 rfl (lv_at hl 1 rfl) ?_
      refine lv_lmul hx hb dX8_digest_77 ?_
      refine lv_aload_n hx hb dX8_digest_78 rfl (lv_at hl 0 rfl) ?_
      refine lv_iload_n hx hb dX8_digest_79 rfl (lv_at hl 2 rfl) ?_
      refine lv_iconst (v := 5) hx hb dX8_digest_80 (by decide) ?_
      refine lv_idiv hx hb dX8_digest_81 (by decide) ?_
      refine lv_iload_n hx hb dX8_digest_82 rfl (lv_at hl 2 rfl) ?_
      refine lv_iconst (v := 5) hx hb dX8_digest_83 (by decide) ?_
      refine lv_irem hx hb dX8_digest_84 (by decide) ?_
      obtain ⟨r_21, e_20, h⟩ := bo_s h
      refine x_goi X hS (x_runV (As := [.int (x3 / 5), .int (x3 - x3 / 5 * 5)]) (rest := [.long (31 * y1)]) X gM_ok hP hS (ctX8_toldOf l D c3 ad w _ (x3 / 5) (x3 - x3 / 5 * 5) _ e_20) (cwV 2 hts gX8_digest_X8_toldOf rfl rfl rfl (by decide +kernel) ⟨by decide, by decide⟩) (gM0 c3 ad w) rfl rfl rfl hl.1 rfl (Nat.le_of_ble_eq_true rfl) dX8_digest_85) (fun H locs hP hS => ?_)
      refine lv_i2l (v := r_21.toInt64) hx hb dX8_digest_88 rfl ?_
      refine lv_ladd hx hb dX8_digest_89 ?_
      refine x_nml h (fun y1_23 h => ?_)
      refine lv_lstore_n (lv' := [(1, .long y1_23), (0, .ref (ad 0)), (3, .int x3)]) hx hb dX8_digest_90 rfl hl (by decide) rfl (fun ls hl => ?_)
      refine lv_iinc (v := (x3 + 1)) (lv' := [(3, .int (x3 + 1)), (1, .long y1_23), (0, .ref (ad 0))]) hx hb dX8_digest_91 hl (k := 2) rfl rfl (by decide) rfl (fun ls hl => ?_)
      refine lv_goto (tgt := 63) hx hb dX8_digest_94 (by decide) ?_
      exact ih y1_23 (x3 + 1) _ _ _ hP hS (lv_sub hl [2, 1, 0] rfl) h
def fX8_digest_33 (w : Mm) : Nat → Int64 → Int32 → Option (Int64)
  | 0, _, _ => none
  | n + 1, y1, x3 => (if (w.1 0 1) ≤ x3 then fX8_digest_63 w FU y1 0 else gd (inb x3 4 = true) (nm ((31 * y1) + ((w.1 2 x3.toNatClampNeg).toInt64)) (fun y1_26 => fX8_digest_33 w n y1_26 (x3 + 1))))
set_option maxRecDepth 20000 in
theorem bX8_digest_33 {p : Program} {l : Launch} {e : Env} {s : State} {m : MethodId} {args : Array Value} {below : List Frame} {meth : Method} {c : Code} {Q : State → Prop} {D : va_G} {c3 : C3} {ad : Nat → Nat} {A : Nat → Prop} {r : Int64} {w : Mm} (X : Cx p s m args c cX8_digest 5 RX8 wsX8_digest D c3 (encM c3 ad) gM A) (hret : Rl p l e (rmX8_digest) s m args below meth c Q cX8_digest D (encM c3 ad) A r w) : ∀ (n : Nat) (y1 : Int64) (x3 : Int32) (H : Heap) (locs : List Loc) (ls : Array Slot), va_P D vwCl ((encM c3 ad) w) H → va_S A s.heap H locs → lv_has ls 5 [(0, .ref (ad 0)), (1, .long y1), (3, .int x3)] → fX8_digest_33 w n y1 x3 = some r → W p l e (rmX8_digest) s m args below meth c H locs 0 0 Q (F0 m 33 ls []) := by
  have hx := X.1
  have hb := X.2.1
  have hml := X.2.2.1
  have hown := X.2.2.2.1
  have hts := X.2.2.2.2.1
  intro n
  induction n with
  | zero =>
    intro y1 x3 H locs ls hP hS hl h
    exact absurd h (by simp [fX8_digest_33])
  | succ n ih =>
    intro y1 x3 H locs ls hP hS hl h
    rw [fX8_digest_33] at h
    refine lv_iload_n hx hb dX8_digest_33 rfl (lv_at hl 2 rfl) ?_
    refine lv_aload_n hx hb dX8_digest_34 rfl (lv_at hl 0 rfl) ?_
    refine x_get (rest := [.int x3]) X hP (gM0 c3 ad w) rfl iwX8_digest_X8 1 (by decide) lkX8_digest_164 rfl dX8_digest_35 ?_
    refine lv_icmp_ge (tgt := 61) hx hb dX8_digest_38 (by decide) (fun c_24 => ?_) (fun c_24 => ?_)
    · replace h := it_p c_24 h
      refine lv_iconst (v := 0) hx hb dX8_digest_61 (by decide) ?_
      refine lv_istore_n (lv' := [(3, .int 0), (0, .ref (ad 0)), (1, .long y1)]) hx hb dX8_digest_62 rfl hl (by decide) rfl (fun ls hl => ?_)
      exact bX8_digest_63 X hret FU y1 0 _ _ _ hP hS (lv_sub hl [1, 2, 0] rfl) h
    · replace h := it_n c_24 h
      refine lv_ldc2 (v := 31) hx hb hown (hts (.constantLong RX8 321 (31)) (by decide +kernel)) dX8_digest_41 ?_
      refine lv_lload_n hx hb dX8_digest_44 rfl (lv_at hl 1 rfl) ?_
      refine lv_lmul hx hb dX8_digest_45 ?_
      refine lv_aload_n hx hb dX8_digest_46 rfl (lv_at hl 0 rfl) ?_
      refine x_get (rest := [.long (31 * y1)]) X hP (gM0 c3 ad w) rfl iwX8_digest_X8 2 (by decide) lkX8_digest_13 rfl dX8_digest_47 ?_
      refine lv_iload_n hx hb dX8_digest_50 rfl (lv_at hl 2 rfl) ?_
      obtain ⟨g_25, h⟩ := gd_s h
      refine x_iald X hP (gM2 c3 ad w) g_25 dX8_digest_51 ?_
      refine lv_i2l (v := (w.1 2 x3.toNatClampNeg).toInt64) hx hb dX8_digest_52 rfl ?_
      refine lv_ladd hx hb dX8_digest_53 ?_
      refine x_nml h (fun y1_26 h => ?_)
      refine lv_lstore_n (lv' := [(1, .long y1_26), (0, .ref (ad 0)), (3, .int x3)]) hx hb dX8_digest_54 rfl hl (by decide) rfl (fun ls hl => ?_)
      refine lv_iinc (v := (x3 + 1)) (lv' := [(3, .int (x3 + 1)), (1, .long y1_26), (0, .ref (ad 0))]) hx hb dX8_digest_55 hl (k := 2) rfl rfl (by decide) rfl (fun ls hl => ?_)
      refine lv_goto (tgt := 33) hx hb dX8_digest_58 (by decide) ?_
      exact ih y1_26 (x3 + 1) _ _ _ hP hS (lv_sub hl [2, 1, 0] rfl) h
def fX8_digest_6 (w : Mm) : Nat → Int64 → Int32 → Option (Int64)
  | 0, _, _ => none
  | n + 1, y1, x3 => (if 11 ≤ x3 then fX8_digest_33 w FU y1 0 else bo (fX8_countOf x3 w) (fun r_29 => nm ((31 * y1) + r_29.toInt64) (fun y1_31 => fX8_digest_6 w n y1_31 (x3 + 1))))
set_option maxRecDepth 20000 in
theorem bX8_digest_6 {p : Program} {l : Launch} {e : Env} {s : State} {m : MethodId} {args : Array Value} {below : List Frame} {meth : Method} {c : Code} {Q : State → Prop} {D : va_G} {c3 : C3} {ad : Nat → Nat} {A : Nat → Prop} {r : Int64} {w : Mm} (X : Cx p s m args c cX8_digest 5 RX8 wsX8_digest D c3 (encM c3 ad) gM A) (hret : Rl p l e (rmX8_digest) s m args below meth c Q cX8_digest D (encM c3 ad) A r w) : ∀ (n : Nat) (y1 : Int64) (x3 : Int32) (H : Heap) (locs : List Loc) (ls : Array Slot), va_P D vwCl ((encM c3 ad) w) H → va_S A s.heap H locs → lv_has ls 5 [(0, .ref (ad 0)), (1, .long y1), (3, .int x3)] → fX8_digest_6 w n y1 x3 = some r → W p l e (rmX8_digest) s m args below meth c H locs 0 0 Q (F0 m 6 ls []) := by
  have hx := X.1
  have hb := X.2.1
  have hml := X.2.2.1
  have hown := X.2.2.2.1
  have hts := X.2.2.2.2.1
  intro n
  induction n with
  | zero =>
    intro y1 x3 H locs ls hP hS hl h
    exact absurd h (by simp [fX8_digest_6])
  | succ n ih =>
    intro y1 x3 H locs ls hP hS hl h
    rw [fX8_digest_6] at h
    refine lv_iload_n hx hb dX8_digest_6 rfl (lv_at hl 2 rfl) ?_
    refine lv_bipush (v := 11) hx hb dX8_digest_7 (by decide) ?_
    refine lv_icmp_ge (tgt := 31) hx hb dX8_digest_9 (by decide) (fun c_27 => ?_) (fun c_27 => ?_)
    · replace h := it_p c_27 h
      refine lv_iconst (v := 0) hx hb dX8_digest_31 (by decide) ?_
      refine lv_istore_n (lv' := [(3, .int 0), (0, .ref (ad 0)), (1, .long y1)]) hx hb dX8_digest_32 rfl hl (by decide) rfl (fun ls hl => ?_)
      exact bX8_digest_33 X hret FU y1 0 _ _ _ hP hS (lv_sub hl [1, 2, 0] rfl) h
    · replace h := it_n c_27 h
      refine lv_ldc2 (v := 31) hx hb hown (hts (.constantLong RX8 321 (31)) (by decide +kernel)) dX8_digest_12 ?_
      refine lv_lload_n hx hb dX8_digest_15 rfl (lv_at hl 1 rfl) ?_
      refine lv_lmul hx hb dX8_digest_16 ?_
      refine lv_aload_n hx hb dX8_digest_17 rfl (lv_at hl 0 rfl) ?_
      refine lv_iload_n hx hb dX8_digest_18 rfl (lv_at hl 2 rfl) ?_
      obtain ⟨r_29, e_28, h⟩ := bo_s h
      refine x_goi X hS (x_runV (As := [.int x3]) (rest := [.long (31 * y1)]) X gM_ok hP hS (ctX8_countOf l D c3 ad w _ x3 _ e_28) (cwV 1 hts gX8_digest_X8_countOf rfl rfl rfl (by decide +kernel) ⟨by decide, by decide⟩) (gM0 c3 ad w) rfl rfl rfl hl.1 rfl (Nat.le_of_ble_eq_true rfl) dX8_digest_19) (fun H locs hP hS => ?_)
      refine lv_i2l (v := r_29.toInt64) hx hb dX8_digest_22 rfl ?_
      refine lv_ladd hx hb dX8_digest_23 ?_
      refine x_nml h (fun y1_31 h => ?_)
      refine lv_lstore_n (lv' := [(1, .long y1_31), (0, .ref (ad 0)), (3, .int x3)]) hx hb dX8_digest_24 rfl hl (by decide) rfl (fun ls hl => ?_)
      refine lv_iinc (v := (x3 + 1)) (lv' := [(3, .int (x3 + 1)), (1, .long y1_31), (0, .ref (ad 0))]) hx hb dX8_digest_25 hl (k := 2) rfl rfl (by decide) rfl (fun ls hl => ?_)
      refine lv_goto (tgt := 6) hx hb dX8_digest_28 (by decide) ?_
      exact ih y1_31 (x3 + 1) _ _ _ hP hS (lv_sub hl [2, 1, 0] rfl) h
def fX8_digest_E (w : Mm) : Option (Int64) := fX8_digest_6 w FU 17 0
set_option maxRecDepth 20000 in
theorem bX8_digest_E {p : Program} {l : Launch} {e : Env} {s : State} {m : MethodId} {args : Array Value} {below : List Frame} {meth : Method} {c : Code} {Q : State → Prop} {D : va_G} {c3 : C3} {ad : Nat → Nat} {A : Nat → Prop} {r : Int64} {w : Mm} (X : Cx p s m args c cX8_digest 5 RX8 wsX8_digest D c3 (encM c3 ad) gM A) (hret : Rl p l e (rmX8_digest) s m args below meth c Q cX8_digest D (encM c3 ad) A r w) : ∀ (H : Heap) (locs : List Loc) (ls : Array Slot), va_P D vwCl ((encM c3 ad) w) H → va_S A s.heap H locs → lv_has ls 5 [(0, .ref (ad 0))] → fX8_digest_E w = some r → W p l e (rmX8_digest) s m args below meth c H locs 0 0 Q (F0 m 0 ls []) := by
  have hx := X.1
  have hb := X.2.1
  have hml := X.2.2.1
  have hown := X.2.2.2.1
  have hts := X.2.2.2.2.1
  intro H locs ls hP hS hl h
  unfold fX8_digest_E at h
  refine lv_ldc2 (v := 17) hx hb hown (hts (.constantLong RX8 319 (17)) (by decide +kernel)) dX8_digest_0 ?_
  refine lv_lstore_n (lv' := [(1, .long 17), (0, .ref (ad 0))]) hx hb dX8_digest_3 rfl hl (by decide) rfl (fun ls hl => ?_)
  refine lv_iconst (v := 0) hx hb dX8_digest_4 (by decide) ?_
  refine lv_istore_n (lv' := [(3, .int 0), (1, .long 17), (0, .ref (ad 0))]) hx hb dX8_digest_5 rfl hl (by decide) rfl (fun ls hl => ?_)
  exact bX8_digest_6 X hret FU 17 0 _ _ _ hP hS (lv_sub hl [2, 1, 0] rfl) h
def fX8_digest (w : Mm) : Option (Int64) := fX8_digest_E w
theorem ctX8_digest (l : Launch) (D : va_G) (c3 : C3) (ad : Nat → Nat) (w : Mm) (sz : Nat) (r : Int64) (h : fX8_digest w = some r) : Cl l yX8_digest wsX8_digest rmX8_digest D c3 (encM c3 ad) gM [.ref (ad 0)] w sz r w := by
  refine Cl.of (cc := cX8_digest) (maxL := 5) (encM_ok c3 ad) (by decide) rfl (Nat.le_of_ble_eq_true rfl) ?_
  intro p e s m below meth c A Q ls X hret hP hS hl
  exact bX8_digest_E X hret _ _ ls hP hS hl h

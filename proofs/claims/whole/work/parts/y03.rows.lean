set_option maxRecDepth 20000
def y_T : List (List Cond) := [wsL_law_r1, wsL_law_r2, wsL_law_r3, wsL_law_r4, wsL_law_r5, wsL_law_r6, wsL_law_r7, wsL_law_r8, wsL_law_r9, wsL_law_r10, wsL_law_r11, wsL_law_r12, wsL_law_r13, wsL_law_r14, wsL_law_r15, wsL_law_r16, wsL_law_r17, wsL_law_r18, wsL_law_r19, wsL_law_r20, wsL_law_r21, wsL_law_r22, wsL_law_r23, wsL_law_r24, wsL_law_r25, wsL_law_r26, wsL_law_r27, wsL_law_r28, wsL_law_r29, wsL_law_r30, wsL_law_r31, wsL_law_r32, wsL_law_r33, wsL_law_r34, wsL_law_r35, wsL_law_r36, wsL_law_r37, wsL_law_r38, wsL_law_r39, wsL_law_r40, wsL_law_r41, wsL_law_r42, wsL_law_r43, wsL_law_r44]
def y_H : List Cond := (wsL_law_r1 ++ (wsL_law_r2 ++ (wsL_law_r3 ++ (wsL_law_r4 ++ (wsL_law_r5 ++ (wsL_law_r6 ++ (wsL_law_r7 ++ (wsL_law_r8 ++ (wsL_law_r9 ++ (wsL_law_r10 ++ (wsL_law_r11 ++ (wsL_law_r12 ++ (wsL_law_r13 ++ (wsL_law_r14 ++ (wsL_law_r15 ++ (wsL_law_r16 ++ (wsL_law_r17 ++ (wsL_law_r18 ++ (wsL_law_r19 ++ (wsL_law_r20 ++ (wsL_law_r21 ++ (wsL_law_r22 ++ (wsL_law_r23 ++ (wsL_law_r24 ++ (wsL_law_r25 ++ (wsL_law_r26 ++ (wsL_law_r27 ++ (wsL_law_r28 ++ (wsL_law_r29 ++ (wsL_law_r30 ++ (wsL_law_r31 ++ (wsL_law_r32 ++ (wsL_law_r33 ++ (wsL_law_r34 ++ (wsL_law_r35 ++ (wsL_law_r36 ++ (wsL_law_r37 ++ (wsL_law_r38 ++ (wsL_law_r39 ++ (wsL_law_r40 ++ (wsL_law_r41 ++ (wsL_law_r42 ++ (wsL_law_r43 ++ wsL_law_r44)))))))))))))))))))))))))))))))))))))))))))
theorem y_TH : ∀ t ∈ y_T, ∀ w ∈ t, w ∈ y_H := List.forall_mem_cons.mpr ⟨fun _ h => List.mem_append_left _ h, List.forall_mem_cons.mpr ⟨fun _ h => List.mem_append_right _ (List.mem_append_left _ h), List.forall_mem_cons.mpr ⟨fun _ h => List.mem_append_right _ (List.mem_append_right _ (List.mem_append_left _ h)), List.forall_mem_cons.mpr ⟨fun _ h => List.mem_append_right _ (List.mem_append_right _ (List.mem_append_right _ (List.mem_append_left _ h))), List.forall_mem_cons.mpr ⟨fun _ h => List.mem_append_right _ (List.mem_append_right _ (List.mem_append_right _ (List.mem_append_right _ (List.mem_append_left _ h)))), List.forall_mem_cons.mpr ⟨fun _ h => List.mem_append_right _ (List.mem_append_right _ (List.mem_append_right _ (List.mem_append_right _ (List.mem_append_right _ (List.mem_append_left _ h))))), List.forall_mem_cons.mpr ⟨fun _ h => List.mem_append_right _ (List.mem_append_right _ (List.mem_append_right _ (List.mem_append_right _ (List.mem_append_right _ (List.mem_append_right _ (List.mem_append_left _ h)))))), List.forall_mem_cons.mpr ⟨fun _ h => List.mem_append_right _ (List.mem_append_right _ (List.mem_append_right _ (List.mem_append_right _ (List.mem_append_right _ (List.mem_append_right _ (List.mem_append_right _ (List.mem_append_left _ h))))))), List.forall_mem_cons.mpr ⟨fun _ h => List.mem_append_right _ (List.mem_append_right _ (List.mem_append_right _ (List.mem_append_right _ (List.mem_append_right _ (List.mem_append_right _ (List.mem_append_right _ (List.mem_append_right _ (List.mem_append_left _ h)))))))), List.forall_mem_cons.mpr ⟨fun _ h => List.mem_append_right _ (List.mem_append_right _ (List.mem_append_right _ (List.mem_append_right _ (List.mem_append_right _ (List.mem_append_right _ (List.mem_append_right _ (List.mem_append_right _ (List.mem_append_right _ (List.mem_append_left _ h))))))))), List.forall_mem_cons.mpr ⟨fun _ h => List.mem_append_right _ (List.mem_append_right _ (List.mem_append_right _ (List.mem_append_right _ (List.mem_append_right _ (List.mem_append_right _ (List.mem_append_right _ (List.mem_append_right _ (List.mem_append_right _ (List.mem_append_right _ (List.mem_append_left _ h)))))))))), List.forall_mem_cons.mpr ⟨fun _ h => List.mem_append_right _ (List.mem_append_right _ (List.mem_append_right _ (List.mem_append_right _ (List.mem_append_right _ (List.mem_append_right _ (List.mem_append_right _ (List.mem_append_right _ (List.mem_append_right _ (List.mem_append_right _ (List.mem_append_right _ (List.mem_append_left _ h))))))))))), List.forall_mem_cons.mpr ⟨fun _ h => List.mem_append_right _ (List.mem_append_right _ (List.mem_append_right _ (List.mem_append_right _ (List.mem_append_right _ (List.mem_append_right _ (List.mem_append_right _ (List.mem_append_right _ (List.mem_append_right _ (List.mem_append_right _ (List.mem_append_right _ (List.mem_append_right _ (List.mem_append_left _ h)))))))))))), List.forall_mem_cons.mpr ⟨fun _ h => List.mem_append_right _ (List.mem_append_right _ (List.mem_append_right _ (List.mem_append_right _ (List.mem_append_right _ (List.mem_append_right _ (List.mem_append_right _ (List.mem_append_right _ (List.mem_append_right _ (List.mem_append_right _ (List.mem_append_right _ (List.mem_append_right _ (List.mem_append_right _ (List.mem_append_left _ h))))))))))))), List.forall_mem_cons.mpr ⟨fun _ h => List.mem_append_right _ (List.mem_append_right _ (List.mem_append_right _ (List.mem_append_right _ (List.mem_append_right _ (List.mem_append_right _ (List.mem_append_right _ (List.mem_append_right _ (List.mem_append_right _ (List.mem_append_right _ (List.mem_append_right _ (List.mem_append_right _ (List.mem_append_right _ (List.mem_append_right _ (List.mem_append_left _ h)))))))))))))), List.forall_mem_cons.mpr ⟨fun _ h => List.mem_append_right _ (List.mem_append_right _ (List.mem_append_right _ (List.mem_append_right _ (List.mem_append_right _ (List.mem_append_right _ (List.mem_append_right _ (List.mem_append_right _ (List.mem_append_right _ (List.mem_append_right _ (List.mem_append_right _ (List.mem_append_right _ (List.mem_append_right _ (List.mem_append_right _ (List.mem_append_right _ (List.mem_append_left _ h))))))))))))))), List.forall_mem_cons.mpr ⟨fun _ h => List.mem_append_right _ (List.mem_append_right _ (List.mem_append_right _ (List.mem_append_right _ (List.mem_append_right _ (List.mem_append_right _ (List.mem_append_right _ (List.mem_append_right _ (List.mem_append_right _ (List.mem_append_right _ (List.mem_append_right _ (List.mem_append_right _ (List.mem_append_right _ (List.mem_append_right _ (List.mem_append_right _ (List.mem_append_right _ (List.mem_append_left _ h)))))))))))))))), List.forall_mem_cons.mpr ⟨fun _ h => List.mem_append_right _ (List.mem_append_right _ (List.mem_append_right _ (List.mem_append_right _ (List.mem_append_right _ (List.mem_append_right _ (List.mem_append_right _ (List.mem_append_right _ (List.mem_append_right _ (List.mem_append_right _ (List.mem_append_right _ (List.mem_append_right _ (List.mem_append_right _ (List.mem_append_right _ (List.mem_append_right _ (List.mem_append_right _ (List.mem_append_right _ (List.mem_append_left _ h))))))))))))))))), List.forall_mem_cons.mpr ⟨fun _ h => List.mem_append_right _ (List.mem_append_right _ (List.mem_append_right _ (List.mem_append_right _ (List.mem_append_right _ (List.mem_append_right _ (List.mem_append_right _ (List.mem_append_right _ (List.mem_append_right _ (List.mem_append_right _ (List.mem_append_right _ (List.mem_append_right _ (List.mem_append_right _ (List.mem_append_right _ (List.mem_append_right _ (List.mem_append_right _ (List.mem_append_right _ (List.mem_append_right _ (List.mem_append_left _ h)))))))))))))))))), List.forall_mem_cons.mpr ⟨fun _ h => List.mem_append_right _ (List.mem_append_right _ (List.mem_append_right _ (List.mem_append_right _ (List.mem_append_right _ (List.mem_append_right _ (List.mem_append_right _ (List.mem_append_right _ (List.mem_append_right _ (List.mem_append_right _ (List.mem_append_right _ (List.mem_append_right _ (List.mem_append_right _ (List.mem_append_right _ (List.mem_append_right _ (List.mem_append_right _ (List.mem_append_right _ (List.mem_append_right _ (List.mem_append_right _ (List.mem_append_left _ h))))))))))))))))))), List.forall_mem_cons.mpr ⟨fun _ h => List.mem_append_right _ (List.mem_append_right _ (List.mem_append_right _ (List.mem_append_right _ (List.mem_append_right _ (List.mem_append_right _ (List.mem_append_right _ (List.mem_append_right _ (List.mem_append_right _ (List.mem_append_right _ (List.mem_append_right _ (List.mem_append_right _ (List.mem_append_right _ (List.mem_append_right _ (List.mem_append_right _ (List.mem_append_right _ (List.mem_append_right _ (List.mem_append_right _ (List.mem_append_right _ (List.mem_append_right _ (List.mem_append_left _ h)))))))))))))))))))), List.forall_mem_cons.mpr ⟨fun _ h => List.mem_append_right _ (List.mem_append_right _ (List.mem_append_right _ (List.mem_append_right _ (List.mem_append_right _ (List.mem_append_right _ (List.mem_append_right _ (List.mem_append_right _ (List.mem_append_right _ (List.mem_append_right _ (List.mem_append_right _ (List.mem_append_right _ (List.mem_append_right _ (List.mem_append_right _ (List.mem_append_right _ (List.mem_append_right _ (List.mem_append_right _ (List.mem_append_right _ (List.mem_append_right _ (List.mem_append_right _ (List.mem_append_right _ (List.mem_append_left _ h))))))))))))))))))))), List.forall_mem_cons.mpr ⟨fun _ h => List.mem_append_right _ (List.mem_append_right _ (List.mem_append_right _ (List.mem_append_right _ (List.mem_append_right _ (List.mem_append_right _ (List.mem_append_right _ (List.mem_append_right _ (List.mem_append_right _ (List.mem_append_right _ (List.mem_append_right _ (List.mem_append_right _ (List.mem_append_right _ (List.mem_append_right _ (List.mem_append_right _ (List.mem_append_right _ (List.mem_append_right _ (List.mem_append_right _ (List.mem_append_right _ (List.mem_append_right _ (List.mem_append_right _ (List.mem_append_right _ (List.mem_append_left _ h)))))))))))))))))))))), List.forall_mem_cons.mpr ⟨fun _ h => List.mem_append_right _ (List.mem_append_right _ (List.mem_append_right _ (List.mem_append_right _ (List.mem_append_right _ (List.mem_append_right _ (List.mem_append_right _ (List.mem_append_right _ (List.mem_append_right _ (List.mem_append_right _ (List.mem_append_right _ (List.mem_append_right _ (List.mem_append_right _ (List.mem_append_right _ (List.mem_append_right _ (List.mem_append_right _ (List.mem_append_right _ (List.mem_append_right _ (List.mem_append_right _ (List.mem_append_right _ (List.mem_append_right _ (List.mem_append_right _ (List.mem_append_right _ (List.mem_append_left _ h))))))))))))))))))))))), List.forall_mem_cons.mpr ⟨fun _ h => List.mem_append_right _ (List.mem_append_right _ (List.mem_append_right _ (List.mem_append_right _ (List.mem_append_right _ (List.mem_append_right _ (List.mem_append_right _ (List.mem_append_right _ (List.mem_append_right _ (List.mem_append_right _ (List.mem_append_right _ (List.mem_append_right _ (List.mem_append_right _ (List.mem_append_right _ (List.mem_append_right _ (List.mem_append_right _ (List.mem_append_right _ (List.mem_append_right _ (List.mem_append_right _ (List.mem_append_right _ (List.mem_append_right _ (List.mem_append_right _ (List.mem_append_right _ (List.mem_append_right _ (List.mem_append_left _ h)))))))))))))))))))))))), List.forall_mem_cons.mpr ⟨fun _ h => List.mem_append_right _ (List.mem_append_right _ (List.mem_append_right _ (List.mem_append_right _ (List.mem_append_right _ (List.mem_append_right _ (List.mem_append_right _ (List.mem_append_right _ (List.mem_append_right _ (List.mem_append_right _ (List.mem_append_right _ (List.mem_append_right _ (List.mem_append_right _ (List.mem_append_right _ (List.mem_append_right _ (List.mem_append_right _ (List.mem_append_right _ (List.mem_append_right _ (List.mem_append_right _ (List.mem_append_right _ (List.mem_append_right _ (List.mem_append_right _ (List.mem_append_right _ (List.mem_append_right _ (List.mem_append_right _ (List.mem_append_left _ h))))))))))))))))))))))))), List.forall_mem_cons.mpr ⟨fun _ h => List.mem_append_right _ (List.mem_append_right _ (List.mem_append_right _ (List.mem_append_right _ (List.mem_append_right _ (List.mem_append_right _ (List.mem_append_right _ (List.mem_append_right _ (List.mem_append_right _ (List.mem_append_right _ (List.mem_append_right _ (List.mem_append_right _ (List.mem_append_right _ (List.mem_append_right _ (List.mem_append_right _ (List.mem_append_right _ (List.mem_append_right _ (List.mem_append_right _ (List.mem_append_right _ (List.mem_append_right _ (List.mem_append_right _ (List.mem_append_right _ (List.mem_append_right _ (List.mem_append_right _ (List.mem_append_right _ (List.mem_append_right _ (List.mem_append_left _ h)))))))))))))))))))))))))), List.forall_mem_cons.mpr ⟨fun _ h => List.mem_append_right _ (List.mem_append_right _ (List.mem_append_right _ (List.mem_append_right _ (List.mem_append_right _ (List.mem_append_right _ (List.mem_append_right _ (List.mem_append_right _ (List.mem_append_right _ (List.mem_append_right _ (List.mem_append_right _ (List.mem_append_right _ (List.mem_append_right _ (List.mem_append_right _ (List.mem_append_right _ (List.mem_append_right _ (List.mem_append_right _ (List.mem_append_right _ (List.mem_append_right _ (List.mem_append_right _ (List.mem_append_right _ (List.mem_append_right _ (List.mem_append_right _ (List.mem_append_right _ (List.mem_append_right _ (List.mem_append_right _ (List.mem_append_right _ (List.mem_append_left _ h))))))))))))))))))))))))))), List.forall_mem_cons.mpr ⟨fun _ h => List.mem_append_right _ (List.mem_append_right _ (List.mem_append_right _ (List.mem_append_right _ (List.mem_append_right _ (List.mem_append_right _ (List.mem_append_right _ (List.mem_append_right _ (List.mem_append_right _ (List.mem_append_right _ (List.mem_append_right _ (List.mem_append_right _ (List.mem_append_right _ (List.mem_append_right _ (List.mem_append_right _ (List.mem_append_right _ (List.mem_append_right _ (List.mem_append_right _ (List.mem_append_right _ (List.mem_append_right _ (List.mem_append_right _ (List.mem_append_right _ (List.mem_append_right _ (List.mem_append_right _ (List.mem_append_right _ (List.mem_append_right _ (List.mem_append_right _ (List.mem_append_right _ (List.mem_append_left _ h)))))))))))))))))))))))))))), List.forall_mem_cons.mpr ⟨fun _ h => List.mem_append_right _ (List.mem_append_right _ (List.mem_append_right _ (List.mem_append_right _ (List.mem_append_right _ (List.mem_append_right _ (List.mem_append_right _ (List.mem_append_right _ (List.mem_append_right _ (List.mem_append_right _ (List.mem_append_right _ (List.mem_append_right _ (List.mem_append_right _ (List.mem_append_right _ (List.mem_append_right _ (List.mem_append_right _ (List.mem_append_right _ (List.mem_append_right _ (List.mem_append_right _ (List.mem_append_right _ (List.mem_append_right _ (List.mem_append_right _ (List.mem_append_right _ (List.mem_append_right _ (List.mem_append_right _ (List.mem_append_right _ (List.mem_append_right _ (List.mem_append_right _ (List.mem_append_right _ (List.mem_append_left _ h))))))))))))))))))))))))))))), List.forall_mem_cons.mpr ⟨fun _ h => List.mem_append_right _ (List.mem_append_right _ (List.mem_append_right _ (List.mem_append_right _ (List.mem_append_right _ (List.mem_append_right _ (List.mem_append_right _ (List.mem_append_right _ (List.mem_append_right _ (List.mem_append_right _ (List.mem_append_right _ (List.mem_append_right _ (List.mem_append_right _ (List.mem_append_right _ (List.mem_append_right _ (List.mem_append_right _ (List.mem_append_right _ (List.mem_append_right _ (List.mem_append_right _ (List.mem_append_right _ (List.mem_append_right _ (List.mem_append_right _ (List.mem_append_right _ (List.mem_append_right _ (List.mem_append_right _ (List.mem_append_right _ (List.mem_append_right _ (List.mem_append_right _ (List.mem_append_right _ (List.mem_append_right _ (List.mem_append_left _ h)))))))))))))))))))))))))))))), List.forall_mem_cons.mpr ⟨fun _ h => List.mem_append_right _ (List.mem_append_right _ (List.mem_append_right _ (List.mem_append_right _ (List.mem_append_right _ (List.mem_append_right _ (List.mem_append_right _ (List.mem_append_right _ (List.mem_append_right _ (List.mem_append_right _ (List.mem_append_right _ (List.mem_append_right _ (List.mem_append_right _ (List.mem_append_right _ (List.mem_append_right _ (List.mem_append_right _ (List.mem_append_right _ (List.mem_append_right _ (List.mem_append_right _ (List.mem_append_right _ (List.mem_append_right _ (List.mem_append_right _ (List.mem_append_right _ (List.mem_append_right _ (List.mem_append_right _ (List.mem_append_right _ (List.mem_append_right _ (List.mem_append_right _ (List.mem_append_right _ (List.mem_append_right _ (List.mem_append_right _ (List.mem_append_left _ h))))))))))))))))))))))))))))))), List.forall_mem_cons.mpr ⟨fun _ h => List.mem_append_right _ (List.mem_append_right _ (List.mem_append_right _ (List.mem_append_right _ (List.mem_append_right _ (List.mem_append_right _ (List.mem_append_right _ (List.mem_append_right _ (List.mem_append_right _ (List.mem_append_right _ (List.mem_append_right _ (List.mem_append_right _ (List.mem_append_right _ (List.mem_append_right _ (List.mem_append_right _ (List.mem_append_right _ (List.mem_append_right _ (List.mem_append_right _ (List.mem_append_right _ (List.mem_append_right _ (List.mem_append_right _ (List.mem_append_right _ (List.mem_append_right _ (List.mem_append_right _ (List.mem_append_right _ (List.mem_append_right _ (List.mem_append_right _ (List.mem_append_right _ (List.mem_append_right _ (List.mem_append_right _ (List.mem_append_right _ (List.mem_append_right _ (List.mem_append_left _ h)))))))))))))))))))))))))))))))), List.forall_mem_cons.mpr ⟨fun _ h => List.mem_append_right _ (List.mem_append_right _ (List.mem_append_right _ (List.mem_append_right _ (List.mem_append_right _ (List.mem_append_right _ (List.mem_append_right _ (List.mem_append_right _ (List.mem_append_right _ (List.mem_append_right _ (List.mem_append_right _ (List.mem_append_right _ (List.mem_append_right _ (List.mem_append_right _ (List.mem_append_right _ (List.mem_append_right _ (List.mem_append_right _ (List.mem_append_right _ (List.mem_append_right _ (List.mem_append_right _ (List.mem_append_right _ (List.mem_append_right _ (List.mem_append_right _ (List.mem_append_right _ (List.mem_append_right _ (List.mem_append_right _ (List.mem_append_right _ (List.mem_append_right _ (List.mem_append_right _ (List.mem_append_right _ (List.mem_append_right _ (List.mem_append_right _ (List.mem_append_right _ (List.mem_append_left _ h))))))))))))))))))))))))))))))))), List.forall_mem_cons.mpr ⟨fun _ h => List.mem_append_right _ (List.mem_append_right _ (List.mem_append_right _ (List.mem_append_right _ (List.mem_append_right _ (List.mem_append_right _ (List.mem_append_right _ (List.mem_append_right _ (List.mem_append_right _ (List.mem_append_right _ (List.mem_append_right _ (List.mem_append_right _ (List.mem_append_right _ (List.mem_append_right _ (List.mem_append_right _ (List.mem_append_right _ (List.mem_append_right _ (List.mem_append_right _ (List.mem_append_right _ (List.mem_append_right _ (List.mem_append_right _ (List.mem_append_right _ (List.mem_append_right _ (List.mem_append_right _ (List.mem_append_right _ (List.mem_append_right _ (List.mem_append_right _ (List.mem_append_right _ (List.mem_append_right _ (List.mem_append_right _ (List.mem_append_right _ (List.mem_append_right _ (List.mem_append_right _ (List.mem_append_right _ (List.mem_append_left _ h)))))))))))))))))))))))))))))))))), List.forall_mem_cons.mpr ⟨fun _ h => List.mem_append_right _ (List.mem_append_right _ (List.mem_append_right _ (List.mem_append_right _ (List.mem_append_right _ (List.mem_append_right _ (List.mem_append_right _ (List.mem_append_right _ (List.mem_append_right _ (List.mem_append_right _ (List.mem_append_right _ (List.mem_append_right _ (List.mem_append_right _ (List.mem_append_right _ (List.mem_append_right _ (List.mem_append_right _ (List.mem_append_right _ (List.mem_append_right _ (List.mem_append_right _ (List.mem_append_right _ (List.mem_append_right _ (List.mem_append_right _ (List.mem_append_right _ (List.mem_append_right _ (List.mem_append_right _ (List.mem_append_right _ (List.mem_append_right _ (List.mem_append_right _ (List.mem_append_right _ (List.mem_append_right _ (List.mem_append_right _ (List.mem_append_right _ (List.mem_append_right _ (List.mem_append_right _ (List.mem_append_right _ (List.mem_append_left _ h))))))))))))))))))))))))))))))))))), List.forall_mem_cons.mpr ⟨fun _ h => List.mem_append_right _ (List.mem_append_right _ (List.mem_append_right _ (List.mem_append_right _ (List.mem_append_right _ (List.mem_append_right _ (List.mem_append_right _ (List.mem_append_right _ (List.mem_append_right _ (List.mem_append_right _ (List.mem_append_right _ (List.mem_append_right _ (List.mem_append_right _ (List.mem_append_right _ (List.mem_append_right _ (List.mem_append_right _ (List.mem_append_right _ (List.mem_append_right _ (List.mem_append_right _ (List.mem_append_right _ (List.mem_append_right _ (List.mem_append_right _ (List.mem_append_right _ (List.mem_append_right _ (List.mem_append_right _ (List.mem_append_right _ (List.mem_append_right _ (List.mem_append_right _ (List.mem_append_right _ (List.mem_append_right _ (List.mem_append_right _ (List.mem_append_right _ (List.mem_append_right _ (List.mem_append_right _ (List.mem_append_right _ (List.mem_append_right _ (List.mem_append_left _ h)))))))))))))))))))))))))))))))))))), List.forall_mem_cons.mpr ⟨fun _ h => List.mem_append_right _ (List.mem_append_right _ (List.mem_append_right _ (List.mem_append_right _ (List.mem_append_right _ (List.mem_append_right _ (List.mem_append_right _ (List.mem_append_right _ (List.mem_append_right _ (List.mem_append_right _ (List.mem_append_right _ (List.mem_append_right _ (List.mem_append_right _ (List.mem_append_right _ (List.mem_append_right _ (List.mem_append_right _ (List.mem_append_right _ (List.mem_append_right _ (List.mem_append_right _ (List.mem_append_right _ (List.mem_append_right _ (List.mem_append_right _ (List.mem_append_right _ (List.mem_append_right _ (List.mem_append_right _ (List.mem_append_right _ (List.mem_append_right _ (List.mem_append_right _ (List.mem_append_right _ (List.mem_append_right _ (List.mem_append_right _ (List.mem_append_right _ (List.mem_append_right _ (List.mem_append_right _ (List.mem_append_right _ (List.mem_append_right _ (List.mem_append_right _ (List.mem_append_left _ h))))))))))))))))))))))))))))))))))))), List.forall_mem_cons.mpr ⟨fun _ h => List.mem_append_right _ (List.mem_append_right _ (List.mem_append_right _ (List.mem_append_right _ (List.mem_append_right _ (List.mem_append_right _ (List.mem_append_right _ (List.mem_append_right _ (List.mem_append_right _ (List.mem_append_right _ (List.mem_append_right _ (List.mem_append_right _ (List.mem_append_right _ (List.mem_append_right _ (List.mem_append_right _ (List.mem_append_right _ (List.mem_append_right _ (List.mem_append_right _ (List.mem_append_right _ (List.mem_append_right _ (List.mem_append_right _ (List.mem_append_right _ (List.mem_append_right _ (List.mem_append_right _ (List.mem_append_right _ (List.mem_append_right _ (List.mem_append_right _ (List.mem_append_right _ (List.mem_append_right _ (List.mem_append_right _ (List.mem_append_right _ (List.mem_append_right _ (List.mem_append_right _ (List.mem_append_right _ (List.mem_append_right _ (List.mem_append_right _ (List.mem_append_right _ (List.mem_append_right _ (List.mem_append_left _ h)))))))))))))))))))))))))))))))))))))), List.forall_mem_cons.mpr ⟨fun _ h => List.mem_append_right _ (List.mem_append_right _ (List.mem_append_right _ (List.mem_append_right _ (List.mem_append_right _ (List.mem_append_right _ (List.mem_append_right _ (List.mem_append_right _ (List.mem_append_right _ (List.mem_append_right _ (List.mem_append_right _ (List.mem_append_right _ (List.mem_append_right _ (List.mem_append_right _ (List.mem_append_right _ (List.mem_append_right _ (List.mem_append_right _ (List.mem_append_right _ (List.mem_append_right _ (List.mem_append_right _ (List.mem_append_right _ (List.mem_append_right _ (List.mem_append_right _ (List.mem_append_right _ (List.mem_append_right _ (List.mem_append_right _ (List.mem_append_right _ (List.mem_append_right _ (List.mem_append_right _ (List.mem_append_right _ (List.mem_append_right _ (List.mem_append_right _ (List.mem_append_right _ (List.mem_append_right _ (List.mem_append_right _ (List.mem_append_right _ (List.mem_append_right _ (List.mem_append_right _ (List.mem_append_right _ (List.mem_append_left _ h))))))))))))))))))))))))))))))))))))))), List.forall_mem_cons.mpr ⟨fun _ h => List.mem_append_right _ (List.mem_append_right _ (List.mem_append_right _ (List.mem_append_right _ (List.mem_append_right _ (List.mem_append_right _ (List.mem_append_right _ (List.mem_append_right _ (List.mem_append_right _ (List.mem_append_right _ (List.mem_append_right _ (List.mem_append_right _ (List.mem_append_right _ (List.mem_append_right _ (List.mem_append_right _ (List.mem_append_right _ (List.mem_append_right _ (List.mem_append_right _ (List.mem_append_right _ (List.mem_append_right _ (List.mem_append_right _ (List.mem_append_right _ (List.mem_append_right _ (List.mem_append_right _ (List.mem_append_right _ (List.mem_append_right _ (List.mem_append_right _ (List.mem_append_right _ (List.mem_append_right _ (List.mem_append_right _ (List.mem_append_right _ (List.mem_append_right _ (List.mem_append_right _ (List.mem_append_right _ (List.mem_append_right _ (List.mem_append_right _ (List.mem_append_right _ (List.mem_append_right _ (List.mem_append_right _ (List.mem_append_right _ (List.mem_append_left _ h)))))))))))))))))))))))))))))))))))))))), List.forall_mem_cons.mpr ⟨fun _ h => List.mem_append_right _ (List.mem_append_right _ (List.mem_append_right _ (List.mem_append_right _ (List.mem_append_right _ (List.mem_append_right _ (List.mem_append_right _ (List.mem_append_right _ (List.mem_append_right _ (List.mem_append_right _ (List.mem_append_right _ (List.mem_append_right _ (List.mem_append_right _ (List.mem_append_right _ (List.mem_append_right _ (List.mem_append_right _ (List.mem_append_right _ (List.mem_append_right _ (List.mem_append_right _ (List.mem_append_right _ (List.mem_append_right _ (List.mem_append_right _ (List.mem_append_right _ (List.mem_append_right _ (List.mem_append_right _ (List.mem_append_right _ (List.mem_append_right _ (List.mem_append_right _ (List.mem_append_right _ (List.mem_append_right _ (List.mem_append_right _ (List.mem_append_right _ (List.mem_append_right _ (List.mem_append_right _ (List.mem_append_right _ (List.mem_append_right _ (List.mem_append_right _ (List.mem_append_right _ (List.mem_append_right _ (List.mem_append_right _ (List.mem_append_right _ (List.mem_append_left _ h))))))))))))))))))))))))))))))))))))))))), List.forall_mem_cons.mpr ⟨fun _ h => List.mem_append_right _ (List.mem_append_right _ (List.mem_append_right _ (List.mem_append_right _ (List.mem_append_right _ (List.mem_append_right _ (List.mem_append_right _ (List.mem_append_right _ (List.mem_append_right _ (List.mem_append_right _ (List.mem_append_right _ (List.mem_append_right _ (List.mem_append_right _ (List.mem_append_right _ (List.mem_append_right _ (List.mem_append_right _ (List.mem_append_right _ (List.mem_append_right _ (List.mem_append_right _ (List.mem_append_right _ (List.mem_append_right _ (List.mem_append_right _ (List.mem_append_right _ (List.mem_append_right _ (List.mem_append_right _ (List.mem_append_right _ (List.mem_append_right _ (List.mem_append_right _ (List.mem_append_right _ (List.mem_append_right _ (List.mem_append_right _ (List.mem_append_right _ (List.mem_append_right _ (List.mem_append_right _ (List.mem_append_right _ (List.mem_append_right _ (List.mem_append_right _ (List.mem_append_right _ (List.mem_append_right _ (List.mem_append_right _ (List.mem_append_right _ (List.mem_append_right _ (List.mem_append_left _ h)))))))))))))))))))))))))))))))))))))))))), List.forall_mem_cons.mpr ⟨fun _ h => List.mem_append_right _ (List.mem_append_right _ (List.mem_append_right _ (List.mem_append_right _ (List.mem_append_right _ (List.mem_append_right _ (List.mem_append_right _ (List.mem_append_right _ (List.mem_append_right _ (List.mem_append_right _ (List.mem_append_right _ (List.mem_append_right _ (List.mem_append_right _ (List.mem_append_right _ (List.mem_append_right _ (List.mem_append_right _ (List.mem_append_right _ (List.mem_append_right _ (List.mem_append_right _ (List.mem_append_right _ (List.mem_append_right _ (List.mem_append_right _ (List.mem_append_right _ (List.mem_append_right _ (List.mem_append_right _ (List.mem_append_right _ (List.mem_append_right _ (List.mem_append_right _ (List.mem_append_right _ (List.mem_append_right _ (List.mem_append_right _ (List.mem_append_right _ (List.mem_append_right _ (List.mem_append_right _ (List.mem_append_right _ (List.mem_append_right _ (List.mem_append_right _ (List.mem_append_right _ (List.mem_append_right _ (List.mem_append_right _ (List.mem_append_right _ (List.mem_append_right _ (List.mem_append_right _ h)))))))))))))))))))))))))))))))))))))))))), fun _ h => absurd h (List.not_mem_nil)⟩⟩⟩⟩⟩⟩⟩⟩⟩⟩⟩⟩⟩⟩⟩⟩⟩⟩⟩⟩⟩⟩⟩⟩⟩⟩⟩⟩⟩⟩⟩⟩⟩⟩⟩⟩⟩⟩⟩⟩⟩⟩⟩⟩
theorem y_HL : ∀ w ∈ y_H, w ∈ wsL_law := fun _ h => List.mem_append_left _ (List.mem_append_left _ (List.mem_append_left _ (List.mem_append_left _ (List.mem_append_left _ (List.mem_append_left _ (List.mem_append_left _ (List.mem_append_left _ (h))))))))
theorem y_q (ws : List Cond) (ps : List (Nat × Nat)) (hp : ws = ps.filterMap (fun q => (y_T[q.1]?).bind (fun t => t[q.2]?))) (h : ws.all goodWord = true) : GoodIn wsL_law ws := by
  intro w hw
  have h1 := List.all_eq_true.mp h w hw
  rw [hp] at hw
  obtain ⟨q, -, hq⟩ := List.mem_filterMap.mp hw
  obtain ⟨t, ht, hw'⟩ := Option.bind_eq_some_iff.mp hq
  have hm : t ∈ y_T := by first | exact List.mem_of_getElem? ht | exact List.getElem?_mem ht
  have hn : w ∈ t := by first | exact List.mem_of_getElem? hw' | exact List.getElem?_mem hw'
  exact ⟨y_HL w (y_TH t hm w hn), good_of_word h1⟩
theorem y_gX0 : GoodIn wsL_law wsX00 := goodIn_sub inlX0 (by decide +kernel)
theorem y_gX2 : GoodIn wsL_law wsX20 := goodIn_sub inlX2 (by decide +kernel)
theorem y_gX4 : GoodIn wsL_law wsX40 := goodIn_sub inlX4 (by decide +kernel)
theorem y_gX5 : GoodIn wsL_law wsX50 := goodIn_sub inlX5 (by decide +kernel)
theorem y_gX6 : GoodIn wsL_law wsX60 := goodIn_sub inlX6 (by decide +kernel)
theorem y_gX7 : GoodIn wsL_law wsX70 := goodIn_sub inlX7 (by decide +kernel)
theorem y_gX8 : GoodIn wsL_law wsX80 := goodIn_sub inlX8 (by decide +kernel)
theorem ggL_law_X7_init : GoodIn wsL_law wsX7_init := goodIn_ca (goodIn_ca (goodIn_ca (goodIn_ca (goodIn_ca (goodIn_ca (y_q _ [(0, 8), (0, 9), (0, 10), (0, 11), (0, 12), (0, 13), (0, 14), (0, 15), (0, 16), (0, 17), (0, 18), (0, 19), (0, 20), (0, 21), (0, 22), (0, 23), (1, 0), (1, 1), (1, 2), (1, 3), (1, 4), (1, 5), (1, 6), (1, 7), (1, 8), (1, 9), (1, 10), (1, 11), (1, 12), (1, 13), (1, 14), (1, 15), (1, 16), (1, 17), (1, 18), (1, 19), (1, 20), (1, 21), (1, 22), (1, 23), (2, 0), (2, 1), (2, 2), (2, 3), (2, 4), (2, 5), (2, 6), (2, 7), (2, 8), (2, 9), (2, 10), (2, 11), (2, 12), (2, 13), (2, 14), (2, 15), (2, 16), (2, 17), (2, 18), (2, 19), (2, 20), (2, 21), (2, 22), (2, 23), (3, 0), (3, 1), (3, 2), (3, 3), (3, 4), (3, 5), (3, 6), (3, 7), (3, 8), (3, 9), (3, 10), (3, 11), (3, 12), (3, 13), (3, 14)] (by exact rfl) (by decide +kernel)) y_gX5) y_gX7) y_gX2) y_gX4) y_gX6) y_gX0
theorem gL_law_X7_init : GoodIn wsL_law (wsX7_init) := ggL_law_X7_init
theorem ggL_law_X8_init : GoodIn wsL_law wsX8_init := goodIn_ca (y_q _ [(3, 17), (3, 18), (0, 10), (0, 11), (1, 10), (3, 19), (3, 20), (3, 21), (3, 22), (3, 23), (4, 0), (4, 1), (4, 2), (4, 3), (4, 4), (4, 5), (4, 6), (4, 7), (4, 8), (4, 9), (4, 10), (4, 11), (4, 12), (4, 13), (3, 12), (4, 14)] (by exact rfl) (by decide +kernel)) y_gX8
theorem gL_law_X8_init : GoodIn wsL_law (wsX8_init) := ggL_law_X8_init
theorem ggL_law_X7_row : GoodIn wsL_law wsX7_row := goodIn_ca (goodIn_ca (y_q _ [(4, 18), (0, 15), (4, 19), (4, 20), (4, 21), (0, 14), (4, 22), (1, 22), (4, 23), (5, 0), (5, 1), (0, 2), (5, 2), (1, 12), (1, 11), (5, 3), (5, 4), (5, 5), (5, 6), (1, 21), (5, 7), (1, 23), (2, 0), (2, 1), (2, 2)] (by exact rfl) (by decide +kernel)) y_gX7) y_gX5
theorem gL_law_X7_row : GoodIn wsL_law (wsV RL 13 RX7 yX7_row wsX7_row) := goodIn_app (y_q _ [(4, 15), (4, 16), (4, 17), (0, 2)] (by exact rfl) (by decide +kernel)) ggL_law_X7_row
theorem ggL_law_X8_row : GoodIn wsL_law wsX8_row := goodIn_ca (y_q _ [(5, 11), (5, 12), (5, 13), (0, 5), (5, 14), (5, 15), (5, 16), (5, 17), (5, 18), (5, 19), (5, 20), (5, 21), (5, 22), (5, 23), (4, 5), (6, 0), (6, 1), (6, 2), (6, 3), (4, 0), (4, 1)] (by exact rfl) (by decide +kernel)) y_gX8
theorem gL_law_X8_row : GoodIn wsL_law (wsV RL 17 RX8 yX8_row wsX8_row) := goodIn_app (y_q _ [(5, 8), (5, 9), (5, 10), (0, 5)] (by exact rfl) (by decide +kernel)) ggL_law_X8_row
theorem ggL_law_X7_lay : GoodIn wsL_law wsX7_lay := goodIn_ca (goodIn_ca (y_q _ [(6, 7), (0, 15), (6, 8), (1, 13), (6, 9), (6, 10), (6, 11), (0, 2), (6, 12), (6, 13), (6, 14), (6, 15), (6, 16), (4, 19), (4, 20), (4, 21), (0, 14), (4, 22), (1, 22), (6, 17), (6, 18), (6, 19), (6, 20), (5, 7), (4, 23), (5, 0), (5, 1), (5, 2), (1, 12), (1, 11), (6, 21), (6, 22), (6, 23), (7, 0), (7, 1)] (by exact rfl) (by decide +kernel)) y_gX7) y_gX5
theorem gL_law_X7_lay : GoodIn wsL_law (wsV RL 18 RX7 yX7_lay wsX7_lay) := goodIn_app (y_q _ [(6, 4), (6, 5), (6, 6), (0, 2)] (by exact rfl) (by decide +kernel)) ggL_law_X7_lay
theorem ggL_law_X8_lay : GoodIn wsL_law wsX8_lay := goodIn_ca (y_q _ [(7, 5), (4, 1), (7, 6), (7, 7), (7, 8), (0, 5), (7, 9), (4, 0), (5, 12), (5, 13), (5, 14), (5, 15), (5, 16), (5, 17), (5, 18), (5, 19), (5, 20), (5, 21), (5, 22), (5, 23), (4, 5), (7, 10), (7, 11), (7, 12), (7, 13), (7, 14)] (by exact rfl) (by decide +kernel)) y_gX8
theorem gL_law_X8_lay : GoodIn wsL_law (wsV RL 22 RX8 yX8_lay wsX8_lay) := goodIn_app (y_q _ [(7, 2), (7, 3), (7, 4), (0, 5)] (by exact rfl) (by decide +kernel)) ggL_law_X8_lay
theorem ggL_law_X7_at : GoodIn wsL_law wsX7_at := goodIn_ca (goodIn_ca (y_q _ [(7, 18), (0, 15), (6, 8), (1, 13), (6, 9), (6, 10), (6, 11), (0, 2), (6, 12), (6, 13), (6, 14), (6, 15), (6, 16), (4, 19), (4, 20), (4, 21), (0, 14), (4, 22), (1, 22), (6, 17), (6, 18), (6, 19), (6, 20), (5, 7), (4, 23), (5, 0), (5, 1), (5, 2), (1, 12), (1, 11), (6, 21), (6, 22), (6, 23), (7, 0), (7, 1)] (by exact rfl) (by decide +kernel)) y_gX7) y_gX5
theorem gL_law_X7_at : GoodIn wsL_law (wsV RL 23 RX7 yX7_at wsX7_at) := goodIn_app (y_q _ [(7, 15), (7, 16), (7, 17), (0, 2)] (by exact rfl) (by decide +kernel)) ggL_law_X7_at
theorem ggL_law_X8_at : GoodIn wsL_law wsX8_at := goodIn_ca (y_q _ [(7, 22), (4, 1), (7, 6), (7, 7), (7, 8), (0, 5), (7, 9), (4, 0), (5, 12), (5, 13), (5, 14), (5, 15), (5, 16), (5, 17), (5, 18), (5, 19), (5, 20), (5, 21), (5, 22), (5, 23), (4, 5), (7, 10), (7, 11), (7, 12), (7, 13), (7, 14)] (by exact rfl) (by decide +kernel)) y_gX8
theorem gL_law_X8_at : GoodIn wsL_law (wsV RL 26 RX8 yX8_at wsX8_at) := goodIn_app (y_q _ [(7, 19), (7, 20), (7, 21), (0, 5)] (by exact rfl) (by decide +kernel)) ggL_law_X8_at
theorem ggL_law_X7_tear : GoodIn wsL_law wsX7_tear := goodIn_ca (goodIn_ca (y_q _ [(8, 2), (0, 15), (8, 3), (6, 13), (6, 14), (6, 15), (0, 2), (6, 16), (4, 19), (4, 20), (4, 21), (0, 14), (4, 22), (1, 22), (6, 17), (6, 18), (6, 19), (6, 20), (5, 7), (4, 23), (5, 0), (5, 1), (5, 2), (1, 12), (1, 11)] (by exact rfl) (by decide +kernel)) y_gX7) y_gX5
theorem gL_law_X7_tear : GoodIn wsL_law (wsV RL 27 RX7 yX7_tear wsX7_tear) := goodIn_app (y_q _ [(7, 23), (8, 0), (8, 1), (0, 2)] (by exact rfl) (by decide +kernel)) ggL_law_X7_tear
theorem ggL_law_X8_tear : GoodIn wsL_law wsX8_tear := goodIn_ca (y_q _ [(8, 7), (4, 0), (5, 12), (5, 13), (0, 5), (5, 14), (5, 15), (5, 16), (5, 17), (5, 18), (5, 19), (5, 20), (5, 21), (5, 22), (5, 23), (4, 5)] (by exact rfl) (by decide +kernel)) y_gX8
theorem gL_law_X8_tear : GoodIn wsL_law (wsV RL 31 RX8 yX8_tear wsX8_tear) := goodIn_app (y_q _ [(8, 4), (8, 5), (8, 6), (0, 5)] (by exact rfl) (by decide +kernel)) ggL_law_X8_tear
theorem ggL_law_X7_copy : GoodIn wsL_law wsX7_copy := goodIn_ca (goodIn_ca (y_q _ [(8, 11), (0, 15), (6, 8), (8, 12), (8, 13), (8, 14), (8, 15), (4, 19), (4, 20), (4, 21), (0, 14), (4, 22), (1, 22), (4, 23), (5, 0), (5, 1), (0, 2), (5, 2), (1, 12), (1, 11), (6, 17), (6, 18), (6, 19), (6, 20), (5, 7), (8, 16), (8, 17), (8, 18), (8, 19), (7, 1)] (by exact rfl) (by decide +kernel)) y_gX7) y_gX5
theorem gL_law_X7_copy : GoodIn wsL_law (wsV RL 32 RX7 yX7_copy wsX7_copy) := goodIn_app (y_q _ [(8, 8), (8, 9), (8, 10), (0, 2)] (by exact rfl) (by decide +kernel)) ggL_law_X7_copy
theorem ggL_law_X8_copy : GoodIn wsL_law wsX8_copy := goodIn_ca (y_q _ [(8, 23), (4, 0), (4, 1), (5, 12), (5, 13), (0, 5), (5, 14), (5, 15), (5, 16), (5, 17), (5, 18), (5, 19), (5, 20), (5, 21), (5, 22), (5, 23), (4, 5), (9, 0), (9, 1), (9, 2), (9, 3)] (by exact rfl) (by decide +kernel)) y_gX8
theorem gL_law_X8_copy : GoodIn wsL_law (wsV RL 36 RX8 yX8_copy wsX8_copy) := goodIn_app (y_q _ [(8, 20), (8, 21), (8, 22), (0, 5)] (by exact rfl) (by decide +kernel)) ggL_law_X8_copy
theorem ggL_law_X7_mean : GoodIn wsL_law wsX7_mean := goodIn_ca (goodIn_ca (y_q _ [(9, 7), (0, 15), (8, 3), (6, 8), (1, 13), (6, 13), (6, 14), (6, 15), (0, 2), (6, 16), (4, 19), (4, 20), (4, 21), (0, 14), (4, 22), (1, 22), (6, 17), (6, 18), (6, 19), (6, 20), (5, 7), (4, 23), (5, 0), (5, 1), (5, 2), (1, 12), (1, 11)] (by exact rfl) (by decide +kernel)) y_gX7) y_gX5
theorem gL_law_X7_mean : GoodIn wsL_law (wsV RL 37 RX7 yX7_mean wsX7_mean) := goodIn_app (y_q _ [(9, 4), (9, 5), (9, 6), (0, 2)] (by exact rfl) (by decide +kernel)) ggL_law_X7_mean
theorem ggL_law_X8_mean : GoodIn wsL_law wsX8_mean := goodIn_ca (y_q _ [(9, 11), (4, 0), (4, 1), (5, 12), (5, 13), (0, 5), (5, 14), (5, 15), (5, 16), (5, 17), (5, 18), (5, 19), (5, 20), (5, 21), (5, 22), (5, 23), (4, 5), (7, 10), (7, 11), (7, 12), (7, 13), (7, 14)] (by exact rfl) (by decide +kernel)) y_gX8
theorem gL_law_X8_mean : GoodIn wsL_law (wsV RL 40 RX8 yX8_mean wsX8_mean) := goodIn_app (y_q _ [(9, 8), (9, 9), (9, 10), (0, 5)] (by exact rfl) (by decide +kernel)) ggL_law_X8_mean
theorem ggL_law_X7_text : GoodIn wsL_law wsX7_text := goodIn_ca (goodIn_ca (y_q _ [(9, 15), (0, 16), (4, 19), (4, 20), (4, 21), (0, 14), (4, 22), (1, 22), (4, 23), (5, 0), (5, 1), (0, 2), (5, 2), (1, 12), (1, 11), (5, 3), (5, 4), (5, 5), (5, 6), (1, 21), (5, 7), (1, 23), (2, 0), (2, 1), (2, 2)] (by exact rfl) (by decide +kernel)) y_gX7) y_gX5
theorem gL_law_X7_text : GoodIn wsL_law (wsV RL 41 RX7 yX7_text wsX7_text) := goodIn_app (y_q _ [(9, 12), (9, 13), (9, 14), (0, 2)] (by exact rfl) (by decide +kernel)) ggL_law_X7_text
theorem ggL_law_X8_text : GoodIn wsL_law wsX8_text := goodIn_ca (y_q _ [(9, 19), (4, 2), (4, 3), (9, 20), (9, 21), (0, 5), (9, 22), (9, 23), (5, 16), (5, 17), (5, 18), (5, 19), (5, 20), (5, 21), (5, 22), (5, 23), (4, 5)] (by exact rfl) (by decide +kernel)) y_gX8
theorem gL_law_X8_text : GoodIn wsL_law (wsV RL 44 RX8 yX8_text wsX8_text) := goodIn_app (y_q _ [(9, 16), (9, 17), (9, 18), (0, 5)] (by exact rfl) (by decide +kernel)) ggL_law_X8_text
theorem ggL_law_X7_put : GoodIn wsL_law wsX7_put := goodIn_ca (goodIn_ca (y_q _ [(10, 3), (0, 16), (6, 8), (6, 9), (6, 10), (6, 11), (0, 2), (6, 12), (6, 13), (6, 14), (6, 15), (6, 16), (4, 19), (4, 20), (4, 21), (0, 14), (4, 22), (1, 22), (6, 17), (6, 18), (6, 19), (6, 20), (5, 7), (4, 23), (5, 0), (5, 1), (5, 2), (1, 12), (1, 11), (6, 21), (6, 22), (6, 23), (7, 0), (7, 1)] (by exact rfl) (by decide +kernel)) y_gX7) y_gX5
theorem gL_law_X7_put : GoodIn wsL_law (wsV RL 45 RX7 yX7_put wsX7_put) := goodIn_app (y_q _ [(10, 0), (10, 1), (10, 2), (0, 2)] (by exact rfl) (by decide +kernel)) ggL_law_X7_put
theorem ggL_law_X8_put : GoodIn wsL_law wsX8_put := goodIn_ca (y_q _ [(10, 7), (4, 2), (4, 3), (9, 20), (9, 21), (0, 5), (9, 22), (9, 23), (5, 16), (5, 17), (5, 18), (5, 19), (5, 20), (5, 21), (5, 22), (5, 23), (4, 5)] (by exact rfl) (by decide +kernel)) y_gX8
theorem gL_law_X8_put : GoodIn wsL_law (wsV RL 48 RX8 yX8_put wsX8_put) := goodIn_app (y_q _ [(10, 4), (10, 5), (10, 6), (0, 5)] (by exact rfl) (by decide +kernel)) ggL_law_X8_put
theorem ggL_law_X7_fault : GoodIn wsL_law wsX7_fault := goodIn_ca (goodIn_ca (goodIn_ca (goodIn_ca (y_q _ [(10, 11), (0, 16), (1, 1), (6, 8), (8, 3), (6, 13), (6, 14), (6, 15), (0, 2), (6, 16), (4, 19), (4, 20), (4, 21), (0, 14), (4, 22), (1, 22), (6, 17), (6, 18), (6, 19), (6, 20), (5, 7), (4, 23), (5, 0), (5, 1), (5, 2), (1, 12), (1, 11), (10, 12), (10, 13), (10, 14), (1, 0), (10, 15), (3, 0), (10, 16), (10, 17), (10, 18), (10, 19), (3, 1), (2, 23), (10, 20), (10, 21), (10, 22), (10, 23), (0, 20), (11, 0), (2, 6), (2, 8), (2, 12), (11, 1), (11, 2), (11, 3), (11, 4), (11, 5), (11, 6), (11, 7), (11, 8), (11, 9), (11, 10), (11, 11), (11, 12), (11, 13), (11, 14), (11, 15), (11, 16), (11, 17), (11, 18), (11, 19), (11, 20), (11, 21), (11, 22), (11, 23), (12, 0), (12, 1), (12, 2), (12, 3), (12, 4), (12, 5), (12, 6), (12, 7), (12, 8), (12, 9), (12, 10), (12, 11), (12, 12)] (by exact rfl) (by decide +kernel)) y_gX7) y_gX5) y_gX4) y_gX2
theorem gL_law_X7_fault : GoodIn wsL_law (wsV RL 49 RX7 yX7_fault wsX7_fault) := goodIn_app (y_q _ [(10, 8), (10, 9), (10, 10), (0, 2)] (by exact rfl) (by decide +kernel)) ggL_law_X7_fault
theorem ggL_law_X8_fault : GoodIn wsL_law wsX8_fault := goodIn_ca (y_q _ [(12, 16), (4, 2), (9, 20), (9, 21), (0, 5), (9, 22), (9, 23), (5, 16), (5, 17), (5, 18), (5, 19), (5, 20), (5, 21), (5, 22), (5, 23), (4, 5), (12, 17), (12, 18), (12, 19), (12, 20), (12, 21), (12, 22), (12, 23), (13, 0), (13, 1), (13, 2), (13, 3), (13, 4), (13, 5), (13, 6), (4, 6), (13, 7), (13, 8), (13, 9), (13, 10), (13, 11), (13, 12), (13, 13), (13, 14), (4, 3), (13, 15), (13, 16), (13, 17), (13, 18), (13, 19), (13, 20), (13, 21), (13, 22), (13, 23), (14, 0), (14, 1), (14, 2), (14, 3), (14, 4), (14, 5), (14, 6), (14, 7), (14, 8), (14, 9), (4, 7), (14, 10), (14, 11), (14, 12)] (by exact rfl) (by decide +kernel)) y_gX8
theorem gL_law_X8_fault : GoodIn wsL_law (wsV RL 52 RX8 yX8_fault wsX8_fault) := goodIn_app (y_q _ [(12, 13), (12, 14), (12, 15), (0, 5)] (by exact rfl) (by decide +kernel)) ggL_law_X8_fault
theorem ggL_law_X7_family : GoodIn wsL_law wsX7_family := goodIn_ca (goodIn_ca (goodIn_ca (goodIn_ca (y_q _ [(14, 16), (0, 16), (1, 1), (6, 8), (8, 3), (0, 21), (14, 17), (0, 17), (14, 18), (6, 13), (6, 14), (6, 15), (0, 2), (6, 16), (4, 19), (4, 20), (4, 21), (0, 14), (4, 22), (1, 22), (6, 17), (6, 18), (6, 19), (6, 20), (5, 7), (4, 23), (5, 0), (5, 1), (5, 2), (1, 12), (1, 11), (10, 12), (10, 13), (10, 14), (1, 0), (10, 15), (3, 0), (10, 16), (10, 17), (10, 18), (10, 19), (3, 1), (2, 23), (10, 20), (10, 21), (10, 22), (10, 23), (0, 20), (11, 0), (2, 6), (2, 8), (2, 12), (11, 1), (11, 2), (11, 3), (11, 4), (11, 5), (11, 6), (11, 7), (11, 8), (11, 9), (11, 10), (11, 11), (11, 12), (11, 13), (11, 14), (11, 15), (11, 16), (11, 17), (11, 18), (11, 19), (11, 20), (11, 21), (11, 22), (11, 23), (12, 0), (12, 1), (12, 2), (12, 3), (12, 4), (12, 5), (12, 6), (12, 7), (12, 8), (12, 9), (12, 10), (12, 11), (12, 12), (14, 19), (14, 20), (14, 21), (14, 22), (2, 7), (14, 23), (8, 13), (8, 14), (8, 15), (2, 9), (2, 10), (2, 11), (15, 0), (15, 1), (15, 2), (15, 3), (2, 13), (2, 14), (2, 15), (2, 16), (2, 17), (15, 4), (2, 0), (2, 1), (2, 2)] (by exact rfl) (by decide +kernel)) y_gX7) y_gX5) y_gX4) y_gX2
theorem gL_law_X7_family : GoodIn wsL_law (wsV RL 53 RX7 yX7_family wsX7_family) := goodIn_app (y_q _ [(14, 13), (14, 14), (14, 15), (0, 2)] (by exact rfl) (by decide +kernel)) ggL_law_X7_family
theorem ggL_law_X8_family : GoodIn wsL_law wsX8_family := goodIn_ca (y_q _ [(15, 8), (4, 2), (13, 0), (15, 9), (13, 1), (15, 10), (13, 2), (15, 11), (3, 20), (4, 6), (3, 21), (4, 7), (3, 22), (3, 23), (3, 19), (9, 20), (9, 21), (0, 5), (9, 22), (9, 23), (5, 16), (5, 17), (5, 18), (5, 19), (5, 20), (5, 21), (5, 22), (5, 23), (4, 5), (12, 17), (12, 18), (12, 19), (12, 20), (12, 21), (12, 22), (12, 23), (13, 3), (13, 4), (13, 5), (13, 6), (13, 7), (13, 8), (13, 9), (13, 10), (13, 11), (13, 12), (13, 13), (13, 14), (4, 3), (13, 15), (13, 16), (13, 17), (13, 18), (13, 19), (13, 20), (13, 21), (13, 22), (13, 23), (14, 0), (14, 1), (14, 2), (14, 3), (14, 4), (14, 5), (14, 6), (14, 7), (14, 8), (14, 9), (14, 10), (14, 11), (14, 12)] (by exact rfl) (by decide +kernel)) y_gX8
theorem gL_law_X8_family : GoodIn wsL_law (wsV RL 56 RX8 yX8_family wsX8_family) := goodIn_app (y_q _ [(15, 5), (15, 6), (15, 7), (0, 5)] (by exact rfl) (by decide +kernel)) ggL_law_X8_family
theorem ggL_law_X7_saying : GoodIn wsL_law wsX7_saying := goodIn_ca (goodIn_ca (y_q _ [(15, 15), (0, 21), (1, 13), (15, 16), (15, 17), (15, 18), (0, 20), (15, 19), (2, 8), (15, 20), (15, 21), (15, 22), (15, 23), (2, 9), (2, 10), (2, 11), (2, 16), (16, 0), (16, 1), (16, 2), (16, 3), (16, 4), (16, 5), (16, 6), (16, 7), (2, 14), (16, 8), (16, 9), (16, 10), (16, 11), (16, 12), (16, 13), (16, 14), (16, 15), (16, 16), (16, 17), (16, 18), (16, 19), (10, 18), (16, 20)] (by exact rfl) (by decide +kernel)) y_gX7) y_gX2
theorem gL_law_X7_saying : GoodIn wsL_law (wsV RL 57 RX7 yX7_saying wsX7_saying) := goodIn_app (y_q _ [(15, 12), (15, 13), (15, 14), (0, 2)] (by exact rfl) (by decide +kernel)) ggL_law_X7_saying
theorem ggL_law_X8_saying : GoodIn wsL_law wsX8_saying := goodIn_ca (y_q _ [(17, 0), (17, 1), (17, 2), (17, 3), (17, 4), (0, 5), (17, 5), (15, 10), (5, 16), (5, 17), (5, 18), (17, 6), (17, 7), (17, 8), (17, 9), (3, 21), (3, 22), (3, 23), (3, 19), (17, 10), (17, 11), (17, 12), (17, 13), (17, 14), (17, 15), (17, 16), (17, 17), (17, 18), (17, 19), (17, 20), (17, 21), (17, 22), (7, 10), (7, 11), (7, 12), (7, 13), (7, 14)] (by exact rfl) (by decide +kernel)) y_gX8
theorem gL_law_X8_saying : GoodIn wsL_law (wsV RL 60 RX8 yX8_saying wsX8_saying) := goodIn_app (y_q _ [(16, 21), (16, 22), (16, 23), (0, 5)] (by exact rfl) (by decide +kernel)) ggL_law_X8_saying
theorem ggL_law_X7_mark : GoodIn wsL_law wsX7_mark := goodIn_ca (goodIn_ca (y_q _ [(18, 2), (0, 21), (18, 3), (18, 4), (18, 5), (16, 19), (10, 18), (16, 20), (15, 16), (15, 17), (15, 18), (0, 20), (15, 19), (2, 8), (18, 6), (18, 7), (18, 8), (18, 9), (2, 9), (4, 23), (5, 0), (5, 1), (0, 2), (5, 2), (1, 12), (1, 11), (18, 10), (16, 5), (16, 6), (16, 7), (2, 14), (16, 8), (16, 9), (16, 10), (16, 11), (16, 12), (16, 13), (16, 14), (18, 11), (18, 12), (18, 13), (18, 14), (2, 6), (18, 15), (18, 16), (18, 17), (18, 18), (2, 15), (18, 19), (18, 20), (18, 21), (18, 22), (2, 13), (2, 7), (16, 0), (16, 1), (16, 2), (16, 3), (2, 10), (2, 16), (16, 4), (16, 15), (16, 16), (16, 17), (16, 18), (18, 23)] (by exact rfl) (by decide +kernel)) y_gX7) y_gX2
theorem gL_law_X7_mark : GoodIn wsL_law (wsV RL 61 RX7 yX7_mark wsX7_mark) := goodIn_app (y_q _ [(17, 23), (18, 0), (18, 1), (0, 2)] (by exact rfl) (by decide +kernel)) ggL_law_X7_mark
theorem ggL_law_X8_mark : GoodIn wsL_law wsX8_mark := goodIn_ca (y_q _ [(19, 3), (5, 15), (3, 19), (3, 22), (17, 2), (17, 3), (17, 4), (0, 5), (17, 5), (15, 10), (5, 16), (5, 17), (5, 18), (19, 4), (19, 5), (19, 6), (19, 7), (3, 21), (5, 19), (5, 20), (5, 21), (5, 22), (5, 23), (4, 5), (17, 14), (17, 15), (17, 16), (17, 17), (17, 18), (17, 19), (19, 8), (19, 9), (19, 10), (19, 11), (15, 9), (19, 12), (19, 13), (19, 14), (19, 15), (19, 16), (19, 17), (19, 18), (19, 19), (3, 20), (17, 10), (17, 11), (17, 12), (17, 13), (17, 20), (17, 21), (17, 22)] (by exact rfl) (by decide +kernel)) y_gX8
theorem gL_law_X8_mark : GoodIn wsL_law (wsV RL 64 RX8 yX8_mark wsX8_mark) := goodIn_app (y_q _ [(19, 0), (19, 1), (19, 2), (0, 5)] (by exact rfl) (by decide +kernel)) ggL_law_X8_mark
theorem ggL_law_X7_bears : GoodIn wsL_law wsX7_bears := goodIn_ca (goodIn_ca (y_q _ [(19, 23), (0, 21), (20, 0), (20, 1), (20, 2), (20, 3), (0, 20), (20, 4), (2, 6)] (by exact rfl) (by decide +kernel)) y_gX7) y_gX2
theorem gL_law_X7_bears : GoodIn wsL_law (wsV RL 65 RX7 yX7_bears wsX7_bears) := goodIn_app (y_q _ [(19, 20), (19, 21), (19, 22), (0, 2)] (by exact rfl) (by decide +kernel)) ggL_law_X7_bears
theorem ggL_law_X8_bears : GoodIn wsL_law wsX8_bears := goodIn_ca (y_q _ [(20, 8), (3, 20), (20, 9), (20, 10), (20, 11), (0, 5), (20, 12), (15, 9), (5, 16), (5, 17), (5, 18)] (by exact rfl) (by decide +kernel)) y_gX8
theorem gL_law_X8_bears : GoodIn wsL_law (wsV RL 68 RX8 yX8_bears wsX8_bears) := goodIn_app (y_q _ [(20, 5), (20, 6), (20, 7), (0, 5)] (by exact rfl) (by decide +kernel)) ggL_law_X8_bears
theorem ggL_law_X7_say : GoodIn wsL_law wsX7_say := goodIn_ca (goodIn_ca (y_q _ [(20, 16), (0, 21), (20, 17), (20, 18), (20, 1), (20, 2), (20, 3), (0, 20), (20, 4), (2, 6), (15, 16), (15, 17), (15, 18), (15, 19), (2, 8), (20, 19), (18, 16), (18, 17), (18, 18), (2, 15), (20, 20), (20, 21), (20, 22), (20, 23), (21, 0), (21, 1), (21, 2), (2, 17), (2, 18), (21, 3), (21, 4), (21, 5), (21, 6), (21, 7), (21, 8), (21, 9), (21, 10), (2, 13), (16, 18), (16, 19), (10, 18), (16, 20), (21, 11), (21, 12), (21, 13), (21, 14), (21, 15), (21, 16), (2, 14), (2, 11), (2, 16), (2, 7), (16, 0), (16, 1), (16, 2), (16, 3), (2, 9), (2, 10), (16, 4), (16, 5), (16, 6), (16, 7), (16, 8), (16, 9), (16, 10), (16, 11), (16, 12), (16, 13), (16, 14), (16, 15), (16, 16), (16, 17)] (by exact rfl) (by decide +kernel)) y_gX7) y_gX2
theorem gL_law_X7_say : GoodIn wsL_law (wsV RL 69 RX7 yX7_say wsX7_say) := goodIn_app (y_q _ [(20, 13), (20, 14), (20, 15), (0, 2)] (by exact rfl) (by decide +kernel)) ggL_law_X7_say
theorem ggL_law_X8_say : GoodIn wsL_law wsX8_say := goodIn_ca (y_q _ [(21, 20), (3, 19), (20, 9), (20, 10), (20, 11), (0, 5), (20, 12), (15, 9), (5, 16), (5, 17), (5, 18), (17, 2), (17, 3), (17, 4), (17, 5), (15, 10), (19, 12), (19, 13), (19, 14), (19, 15), (21, 21), (21, 22), (21, 23), (22, 0), (22, 1), (22, 2), (22, 3), (22, 4), (3, 23), (3, 20), (17, 10), (17, 11), (17, 12), (17, 13), (3, 21), (3, 22), (17, 14), (17, 15), (17, 16), (17, 17), (17, 18), (17, 19), (17, 20), (17, 21), (17, 22)] (by exact rfl) (by decide +kernel)) y_gX8
theorem gL_law_X8_say : GoodIn wsL_law (wsV RL 72 RX8 yX8_say wsX8_say) := goodIn_app (y_q _ [(21, 17), (21, 18), (21, 19), (0, 5)] (by exact rfl) (by decide +kernel)) ggL_law_X8_say
theorem ggL_law_X7_day : GoodIn wsL_law wsX7_day := goodIn_ca (goodIn_ca (y_q _ [(22, 8), (0, 21), (20, 17), (20, 18), (22, 9), (22, 10), (22, 11), (0, 20), (22, 12), (2, 8), (2, 6), (20, 23), (21, 0), (21, 1), (21, 2), (2, 17), (2, 18), (21, 3), (21, 4), (21, 5), (21, 6), (21, 7), (21, 8), (21, 9), (21, 10), (2, 13), (16, 18), (16, 19), (10, 18), (16, 20), (21, 11), (20, 2), (20, 3), (20, 4), (21, 12), (15, 17), (15, 18), (15, 19), (21, 13), (21, 14), (21, 15), (21, 16), (2, 14), (2, 11), (2, 16), (2, 7), (2, 15), (16, 0), (16, 1), (16, 2), (16, 3), (2, 9), (2, 10), (16, 4), (16, 5), (16, 6), (16, 7), (16, 8), (16, 9), (16, 10), (16, 11), (16, 12), (16, 13), (16, 14), (16, 15), (16, 16), (16, 17)] (by exact rfl) (by decide +kernel)) y_gX7) y_gX2
theorem gL_law_X7_day : GoodIn wsL_law (wsV RL 73 RX7 yX7_day wsX7_day) := goodIn_app (y_q _ [(22, 5), (22, 6), (22, 7), (0, 2)] (by exact rfl) (by decide +kernel)) ggL_law_X7_day
theorem ggL_law_X8_day : GoodIn wsL_law wsX8_day := goodIn_ca (y_q _ [(22, 16), (15, 10), (3, 19), (22, 17), (22, 18), (22, 19), (0, 5), (22, 20), (21, 21), (21, 22), (21, 23), (22, 0), (22, 21), (22, 22), (22, 23), (23, 0)] (by exact rfl) (by decide +kernel)) y_gX8
theorem gL_law_X8_day : GoodIn wsL_law (wsV RL 77 RX8 yX8_day wsX8_day) := goodIn_app (y_q _ [(22, 13), (22, 14), (22, 15), (0, 5)] (by exact rfl) (by decide +kernel)) ggL_law_X8_day
theorem ggL_law_X7_undo : GoodIn wsL_law wsX7_undo := goodIn_ca (goodIn_ca (y_q _ [(23, 4), (0, 21), (20, 17), (23, 5), (23, 6), (23, 7), (0, 20), (23, 8), (2, 18), (2, 17), (15, 0), (15, 1), (15, 2), (15, 3), (2, 13), (2, 14), (2, 15), (2, 16), (15, 4), (2, 0), (2, 1), (2, 2), (21, 3), (21, 4), (21, 5), (21, 6), (21, 7), (21, 8), (21, 9), (21, 10), (16, 18), (16, 19), (10, 18), (16, 20), (21, 11), (20, 2), (20, 3), (20, 4), (2, 6), (21, 12), (15, 17), (15, 18), (15, 19), (2, 8), (21, 13), (21, 14), (21, 15), (21, 16), (2, 11), (2, 7), (16, 0), (16, 1), (16, 2), (16, 3), (2, 9), (2, 10), (16, 4), (16, 5), (16, 6), (16, 7), (16, 8), (16, 9), (16, 10), (16, 11), (16, 12), (16, 13), (16, 14), (16, 15), (16, 16), (16, 17)] (by exact rfl) (by decide +kernel)) y_gX7) y_gX2
theorem gL_law_X7_undo : GoodIn wsL_law (wsV RL 78 RX7 yX7_undo wsX7_undo) := goodIn_app (y_q _ [(23, 1), (23, 2), (23, 3), (0, 2)] (by exact rfl) (by decide +kernel)) ggL_law_X7_undo
theorem ggL_law_X8_undo : GoodIn wsL_law wsX8_undo := goodIn_ca (y_q _ [(23, 12), (3, 19), (5, 16), (5, 17), (0, 5), (5, 18)] (by exact rfl) (by decide +kernel)) y_gX8
theorem gL_law_X8_undo : GoodIn wsL_law (wsV RL 81 RX8 yX8_undo wsX8_undo) := goodIn_app (y_q _ [(23, 9), (23, 10), (23, 11), (0, 5)] (by exact rfl) (by decide +kernel)) ggL_law_X8_undo
theorem ggL_law_X7_keep : GoodIn wsL_law wsX7_keep := goodIn_ca (goodIn_ca (goodIn_ca (y_q _ [(23, 16), (0, 17), (0, 21), (23, 17), (6, 8), (20, 17), (8, 12), (8, 13), (8, 14), (8, 15), (8, 3), (4, 19), (4, 20), (4, 21), (0, 14), (4, 22), (1, 22), (22, 9), (22, 10), (22, 11), (0, 20), (22, 12), (2, 8), (2, 6)] (by exact rfl) (by decide +kernel)) y_gX7) y_gX2) y_gX5
theorem gL_law_X7_keep : GoodIn wsL_law (wsV RL 82 RX7 yX7_keep wsX7_keep) := goodIn_app (y_q _ [(23, 13), (23, 14), (23, 15), (0, 2)] (by exact rfl) (by decide +kernel)) ggL_law_X7_keep
theorem ggL_law_X8_keep : GoodIn wsL_law wsX8_keep := goodIn_ca (y_q _ [(23, 21), (23, 22), (15, 10), (3, 19), (5, 16), (5, 17), (0, 5), (5, 18), (23, 23), (24, 0), (24, 1), (24, 2)] (by exact rfl) (by decide +kernel)) y_gX8
theorem gL_law_X8_keep : GoodIn wsL_law (wsV RL 85 RX8 yX8_keep wsX8_keep) := goodIn_app (y_q _ [(23, 18), (23, 19), (23, 20), (0, 5)] (by exact rfl) (by decide +kernel)) ggL_law_X8_keep
theorem ggL_law_X7_on : GoodIn wsL_law wsX7_on := goodIn_ca (goodIn_ca (goodIn_ca (y_q _ [(24, 6), (0, 17), (6, 8), (0, 21), (23, 17), (8, 3), (8, 12), (8, 13), (8, 14), (8, 15), (20, 17), (6, 13), (6, 14), (6, 15), (0, 2), (6, 16), (4, 19), (4, 20), (4, 21), (0, 14), (4, 22), (1, 22), (6, 17), (6, 18), (6, 19), (6, 20), (5, 7), (4, 23), (5, 0), (5, 1), (5, 2), (1, 12), (1, 11), (23, 5), (23, 6), (23, 7), (0, 20), (23, 8), (2, 18), (2, 17), (15, 0), (15, 1), (15, 2), (15, 3), (2, 13), (2, 14), (2, 15), (2, 16), (15, 4), (2, 0), (2, 1), (2, 2), (21, 3), (21, 4), (21, 5), (21, 6), (21, 7), (21, 8), (21, 9), (21, 10), (16, 18), (16, 19), (10, 18), (16, 20), (21, 11), (20, 2), (20, 3), (20, 4), (2, 6), (21, 12), (15, 17), (15, 18), (15, 19), (2, 8), (21, 13), (21, 14), (21, 15), (21, 16), (2, 11), (2, 7), (16, 0), (16, 1), (16, 2), (16, 3), (2, 9), (2, 10), (16, 4), (16, 5), (16, 6), (16, 7), (16, 8), (16, 9), (16, 10), (16, 11), (16, 12), (16, 13), (16, 14), (16, 15), (16, 16), (16, 17)] (by exact rfl) (by decide +kernel)) y_gX7) y_gX5) y_gX2
theorem gL_law_X7_on : GoodIn wsL_law (wsV RL 86 RX7 yX7_on wsX7_on) := goodIn_app (y_q _ [(24, 3), (24, 4), (24, 5), (0, 2)] (by exact rfl) (by decide +kernel)) ggL_law_X7_on
theorem ggL_law_X8_on : GoodIn wsL_law wsX8_on := goodIn_ca (y_q _ [(24, 10), (23, 22), (3, 19), (5, 16), (5, 17), (0, 5), (5, 18), (5, 19), (5, 20), (5, 21), (5, 22), (5, 23), (4, 5), (23, 23), (24, 0), (24, 1), (24, 2)] (by exact rfl) (by decide +kernel)) y_gX8
theorem gL_law_X8_on : GoodIn wsL_law (wsV RL 89 RX8 yX8_on wsX8_on) := goodIn_app (y_q _ [(24, 7), (24, 8), (24, 9), (0, 5)] (by exact rfl) (by decide +kernel)) ggL_law_X8_on
theorem ggL_law_X7_can : GoodIn wsL_law wsX7_can := goodIn_ca (goodIn_ca (y_q _ [(24, 14), (0, 21), (20, 1), (20, 2), (20, 3), (0, 20), (20, 4), (2, 6), (24, 15), (24, 16), (24, 17), (24, 18), (2, 8), (18, 15), (18, 16), (18, 17), (18, 18), (2, 15), (18, 19), (18, 20), (18, 21), (18, 22), (2, 13), (2, 7), (16, 0), (16, 1), (16, 2), (16, 3), (2, 9), (2, 10), (2, 16), (16, 4), (16, 5), (16, 6), (16, 7), (2, 14), (16, 8), (16, 9), (16, 10), (16, 11), (16, 12), (16, 13), (16, 14), (16, 15), (16, 16), (16, 17), (16, 18), (16, 19), (10, 18), (16, 20)] (by exact rfl) (by decide +kernel)) y_gX7) y_gX2
theorem gL_law_X7_can : GoodIn wsL_law (wsV RL 90 RX7 yX7_can wsX7_can) := goodIn_app (y_q _ [(24, 11), (24, 12), (24, 13), (0, 2)] (by exact rfl) (by decide +kernel)) ggL_law_X7_can
theorem ggL_law_X8_can : GoodIn wsL_law wsX8_can := goodIn_ca (y_q _ [(24, 22), (15, 10), (20, 9), (20, 10), (20, 11), (0, 5), (20, 12), (15, 9), (5, 16), (5, 17), (5, 18), (19, 12), (19, 13), (19, 14), (19, 15), (3, 19), (19, 16), (19, 17), (19, 18), (19, 19), (3, 20), (17, 10), (17, 11), (17, 12), (17, 13), (3, 21), (3, 22), (17, 14), (17, 15), (17, 16), (17, 17), (17, 18), (17, 19), (17, 20), (17, 21), (17, 22)] (by exact rfl) (by decide +kernel)) y_gX8
theorem gL_law_X8_can : GoodIn wsL_law (wsV RL 93 RX8 yX8_can wsX8_can) := goodIn_app (y_q _ [(24, 19), (24, 20), (24, 21), (0, 5)] (by exact rfl) (by decide +kernel)) ggL_law_X8_can
theorem ggL_law_X7_over : GoodIn wsL_law wsX7_over := goodIn_ca (goodIn_ca (y_q _ [(25, 2), (0, 21), (15, 16), (15, 17), (15, 18), (0, 20), (15, 19), (2, 8), (18, 11), (18, 12), (18, 13), (18, 14), (2, 6), (18, 15), (18, 16), (18, 17), (18, 18), (2, 15), (18, 19), (18, 20), (18, 21), (18, 22), (2, 13), (2, 7), (16, 0), (16, 1), (16, 2), (16, 3), (2, 9), (2, 10), (2, 16), (16, 4), (16, 5), (16, 6), (16, 7), (2, 14), (16, 8), (16, 9), (16, 10), (16, 11), (16, 12), (16, 13), (16, 14), (16, 15), (16, 16), (16, 17), (16, 18), (16, 19), (10, 18), (16, 20)] (by exact rfl) (by decide +kernel)) y_gX7) y_gX2
theorem gL_law_X7_over : GoodIn wsL_law (wsV RL 94 RX7 yX7_over wsX7_over) := goodIn_app (y_q _ [(24, 23), (25, 0), (25, 1), (0, 2)] (by exact rfl) (by decide +kernel)) ggL_law_X7_over
theorem ggL_law_X8_over : GoodIn wsL_law wsX8_over := goodIn_ca (y_q _ [(25, 6), (17, 2), (17, 3), (17, 4), (0, 5), (17, 5), (15, 10), (5, 16), (5, 17), (5, 18), (19, 8), (19, 9), (19, 10), (19, 11), (15, 9), (19, 12), (19, 13), (19, 14), (19, 15), (3, 19), (19, 16), (19, 17), (19, 18), (19, 19), (3, 20), (17, 10), (17, 11), (17, 12), (17, 13), (3, 21), (3, 22), (17, 14), (17, 15), (17, 16), (17, 17), (17, 18), (17, 19), (17, 20), (17, 21), (17, 22)] (by exact rfl) (by decide +kernel)) y_gX8
theorem gL_law_X8_over : GoodIn wsL_law (wsV RL 97 RX8 yX8_over wsX8_over) := goodIn_app (y_q _ [(25, 3), (25, 4), (25, 5), (0, 5)] (by exact rfl) (by decide +kernel)) ggL_law_X8_over
theorem ggL_law_X7_talk : GoodIn wsL_law wsX7_talk := goodIn_ca (goodIn_ca (goodIn_ca (y_q _ [(25, 10), (0, 15), (0, 21), (8, 3), (6, 8), (20, 18), (1, 13), (20, 17), (4, 19), (4, 20), (4, 21), (0, 14), (4, 22), (1, 22), (20, 19), (18, 16), (18, 17), (0, 20), (18, 18), (2, 15), (22, 9), (22, 10), (22, 11), (22, 12), (2, 8), (2, 6), (6, 17), (6, 18), (6, 19), (6, 20), (5, 7), (4, 23), (5, 0), (5, 1), (0, 2), (5, 2), (1, 12), (1, 11), (20, 1), (20, 2), (20, 3), (20, 4), (15, 16), (15, 17), (15, 18), (15, 19), (25, 11), (21, 14), (21, 15), (21, 16), (2, 13), (2, 14), (2, 11), (2, 16), (2, 7), (16, 0), (16, 1), (16, 2), (16, 3), (2, 9), (2, 10), (16, 4), (16, 5), (16, 6), (16, 7), (16, 8), (16, 9), (16, 10), (16, 11), (16, 12), (16, 13), (16, 14), (16, 15), (16, 16), (16, 17), (16, 18), (16, 19), (10, 18), (16, 20), (23, 5), (23, 6), (23, 7), (23, 8), (2, 18), (2, 17), (15, 0), (15, 1), (15, 2), (15, 3), (15, 4), (2, 0), (2, 1), (2, 2), (21, 3), (21, 4), (21, 5), (21, 6), (21, 7), (21, 8), (21, 9), (21, 10), (21, 11), (21, 12), (21, 13)] (by exact rfl) (by decide +kernel)) y_gX7) y_gX5) y_gX2
theorem gL_law_X7_talk : GoodIn wsL_law (wsV RL 98 RX7 yX7_talk wsX7_talk) := goodIn_app (y_q _ [(25, 7), (25, 8), (25, 9), (0, 2)] (by exact rfl) (by decide +kernel)) ggL_law_X7_talk
theorem ggL_law_X8_talk : GoodIn wsL_law wsX8_talk := goodIn_ca (y_q _ [(25, 15), (15, 10), (4, 0), (4, 1), (3, 19), (7, 14), (5, 12), (5, 13), (0, 5), (5, 14), (5, 15), (5, 16), (5, 17), (5, 18), (19, 12), (19, 13), (19, 14), (19, 15), (5, 19), (5, 20), (5, 21), (5, 22), (5, 23), (4, 5), (20, 9), (20, 10), (20, 11), (20, 12), (15, 9), (17, 2), (17, 3), (17, 4), (17, 5), (25, 16), (25, 17), (25, 18), (25, 19), (22, 1), (22, 2), (22, 3), (22, 4), (3, 23), (3, 20), (17, 10), (17, 11), (17, 12), (17, 13), (3, 21), (3, 22), (17, 14), (17, 15), (17, 16), (17, 17), (17, 18), (17, 19), (17, 20), (17, 21), (17, 22)] (by exact rfl) (by decide +kernel)) y_gX8
theorem gL_law_X8_talk : GoodIn wsL_law (wsV RL 101 RX8 yX8_talk wsX8_talk) := goodIn_app (y_q _ [(25, 12), (25, 13), (25, 14), (0, 5)] (by exact rfl) (by decide +kernel)) ggL_law_X8_talk
theorem ggL_law_X7_waits : GoodIn wsL_law wsX7_waits := goodIn_ca (goodIn_ca (y_q _ [(25, 23), (0, 21), (20, 0), (20, 18), (18, 5), (16, 19), (10, 18), (16, 20), (20, 1), (20, 2), (20, 3), (0, 20), (20, 4), (2, 6), (15, 16), (15, 17), (15, 18), (15, 19), (2, 8), (20, 19), (18, 16), (18, 17), (18, 18), (2, 15), (26, 0), (16, 1), (16, 2), (16, 3), (2, 9), (2, 10), (2, 16), (16, 4), (16, 5), (16, 6), (16, 7), (2, 14), (16, 8), (16, 9), (16, 10), (16, 11), (16, 12), (16, 13), (16, 14), (16, 15), (16, 16), (16, 17), (16, 18)] (by exact rfl) (by decide +kernel)) y_gX7) y_gX2
theorem gL_law_X7_waits : GoodIn wsL_law (wsV RL 102 RX7 yX7_waits wsX7_waits) := goodIn_app (y_q _ [(25, 20), (25, 21), (25, 22), (0, 2)] (by exact rfl) (by decide +kernel)) ggL_law_X7_waits
theorem ggL_law_X8_waits : GoodIn wsL_law wsX8_waits := goodIn_ca (y_q _ [(26, 4), (3, 19), (3, 20), (20, 9), (20, 10), (20, 11), (0, 5), (20, 12), (15, 9), (5, 16), (5, 17), (5, 18), (17, 2), (17, 3), (17, 4), (17, 5), (15, 10), (19, 12), (19, 13), (19, 14), (19, 15), (17, 10), (17, 11), (17, 12), (17, 13), (3, 21), (3, 22), (17, 14), (17, 15), (17, 16), (17, 17), (17, 18), (17, 19), (17, 20), (17, 21), (17, 22)] (by exact rfl) (by decide +kernel)) y_gX8
theorem gL_law_X8_waits : GoodIn wsL_law (wsV RL 105 RX8 yX8_waits wsX8_waits) := goodIn_app (y_q _ [(26, 1), (26, 2), (26, 3), (0, 5)] (by exact rfl) (by decide +kernel)) ggL_law_X8_waits
theorem ggL_law_X7_settle : GoodIn wsL_law wsX7_settle := goodIn_ca (goodIn_ca (goodIn_ca (goodIn_ca (y_q _ [(26, 8), (0, 21), (0, 15), (1, 5), (6, 8), (26, 9), (20, 1), (20, 2), (20, 3), (0, 20), (20, 4), (2, 6), (4, 19), (4, 20), (4, 21), (0, 14), (4, 22), (1, 22), (20, 19), (18, 16), (18, 17), (18, 18), (2, 15), (22, 9), (22, 10), (22, 11), (22, 12), (2, 8), (26, 10), (26, 11), (26, 12), (1, 4), (26, 13), (26, 14), (26, 15), (26, 16), (26, 17), (26, 18), (26, 19), (26, 20), (26, 21), (3, 5), (26, 22), (26, 23), (27, 0), (27, 1), (3, 6), (3, 7), (3, 8), (27, 2), (18, 20), (18, 21), (18, 22), (2, 13), (2, 7), (16, 0), (16, 1), (16, 2), (16, 3), (2, 9), (2, 10), (2, 16), (16, 4), (16, 5), (16, 6), (16, 7), (2, 14), (16, 8), (16, 9), (16, 10), (16, 11), (16, 12), (16, 13), (16, 14), (16, 15), (16, 16), (16, 17), (16, 18), (16, 19), (10, 18), (16, 20), (27, 3), (27, 4), (27, 5), (27, 6), (21, 7), (21, 8), (21, 9), (21, 10), (21, 13), (21, 14), (21, 15), (21, 16), (2, 11), (27, 7), (27, 8), (27, 9), (27, 10), (5, 3), (5, 4), (5, 5), (5, 6), (1, 21), (5, 7), (1, 23), (2, 0), (2, 1), (2, 2)] (by exact rfl) (by decide +kernel)) y_gX7) y_gX5) y_gX6) y_gX2
theorem gL_law_X7_settle : GoodIn wsL_law (wsV RL 106 RX7 yX7_settle wsX7_settle) := goodIn_app (y_q _ [(26, 5), (26, 6), (26, 7), (0, 2)] (by exact rfl) (by decide +kernel)) ggL_law_X7_settle
theorem ggL_law_X8_settle : GoodIn wsL_law wsX8_settle := goodIn_ca (y_q _ [(27, 14), (15, 10), (4, 1), (20, 9), (20, 10), (20, 11), (0, 5), (20, 12), (15, 9), (5, 16), (5, 17), (5, 18), (5, 12), (5, 13), (5, 14), (5, 15), (19, 12), (19, 13), (19, 14), (19, 15), (3, 19), (27, 15), (27, 16), (27, 17), (27, 18), (27, 19), (27, 20), (27, 21), (27, 22), (27, 23), (28, 0), (28, 1), (28, 2), (25, 16), (25, 17), (25, 18), (25, 19), (22, 21), (22, 22), (22, 23), (23, 0), (22, 1), (22, 2), (22, 3), (22, 4), (3, 23), (3, 20), (17, 10), (17, 11), (17, 12), (17, 13), (3, 21), (3, 22), (17, 14), (17, 15), (17, 16), (17, 17), (17, 18), (17, 19), (17, 20), (17, 21), (17, 22), (6, 0), (6, 1), (6, 2), (6, 3), (4, 0)] (by exact rfl) (by decide +kernel)) y_gX8
theorem gL_law_X8_settle : GoodIn wsL_law (wsV RL 109 RX8 yX8_settle wsX8_settle) := goodIn_app (y_q _ [(27, 11), (27, 12), (27, 13), (0, 5)] (by exact rfl) (by decide +kernel)) ggL_law_X8_settle
theorem ggL_law_X7_least : GoodIn wsL_law wsX7_least := goodIn_ca (goodIn_ca (goodIn_ca (y_q _ [(28, 6), (1, 5), (0, 21), (28, 7), (28, 8), (28, 9), (28, 10), (0, 2), (28, 11), (20, 1), (20, 2), (20, 3), (0, 20), (20, 4), (2, 6), (20, 19), (18, 16), (18, 17), (18, 18), (2, 15), (22, 9), (22, 10), (22, 11), (22, 12), (2, 8), (28, 12), (28, 13), (28, 14), (1, 4), (28, 15), (3, 6), (3, 7), (3, 8), (26, 14), (26, 15), (26, 16), (26, 17), (26, 18), (26, 19), (26, 20), (26, 21), (3, 5), (26, 22), (26, 23), (27, 0), (27, 1), (27, 2), (18, 20), (18, 21), (18, 22), (2, 13), (2, 7), (16, 0), (16, 1), (16, 2), (16, 3), (2, 9), (2, 10), (2, 16), (16, 4), (16, 5), (16, 6), (16, 7), (2, 14), (16, 8), (16, 9), (16, 10), (16, 11), (16, 12), (16, 13), (16, 14), (16, 15), (16, 16), (16, 17), (16, 18), (16, 19), (10, 18), (16, 20), (27, 3), (27, 4), (27, 5), (27, 6), (21, 7), (21, 8), (21, 9), (21, 10), (21, 13), (21, 14), (21, 15), (21, 16), (2, 11), (27, 7), (27, 8), (27, 9), (27, 10)] (by exact rfl) (by decide +kernel)) y_gX7) y_gX6) y_gX2
theorem gL_law_X7_least : GoodIn wsL_law (wsV RL 110 RX7 yX7_least wsX7_least) := goodIn_app (y_q _ [(28, 3), (28, 4), (28, 5), (0, 2)] (by exact rfl) (by decide +kernel)) ggL_law_X7_least
theorem ggL_law_X8_least : GoodIn wsL_law wsX8_least := goodIn_ca (y_q _ [(28, 19), (5, 15), (15, 10), (3, 19), (20, 9), (20, 10), (20, 11), (0, 5), (20, 12), (15, 9), (5, 16), (5, 17), (5, 18), (19, 12), (19, 13), (19, 14), (19, 15), (27, 15), (27, 16), (27, 17), (27, 18), (27, 19), (27, 20), (27, 21), (27, 22), (27, 23), (28, 0), (28, 1), (28, 2), (25, 16), (25, 17), (25, 18), (25, 19), (22, 21), (22, 22), (22, 23), (23, 0), (22, 1), (22, 2), (22, 3), (22, 4), (3, 23), (3, 20), (17, 10), (17, 11), (17, 12), (17, 13), (3, 21), (3, 22), (17, 14), (17, 15), (17, 16), (17, 17), (17, 18), (17, 19), (17, 20), (17, 21), (17, 22)] (by exact rfl) (by decide +kernel)) y_gX8
theorem gL_law_X8_least : GoodIn wsL_law (wsV RL 113 RX8 yX8_least wsX8_least) := goodIn_app (y_q _ [(28, 16), (28, 17), (28, 18), (0, 5)] (by exact rfl) (by decide +kernel)) ggL_law_X8_least
theorem ggL_law_X7_rows : GoodIn wsL_law wsX7_rows := goodIn_ca (goodIn_ca (goodIn_ca (y_q _ [(28, 23), (1, 5), (0, 21), (29, 0), (1, 13), (29, 1), (28, 8), (28, 9), (28, 10), (0, 2), (28, 11), (20, 1), (20, 2), (20, 3), (0, 20), (20, 4), (2, 6), (20, 19), (18, 16), (18, 17), (18, 18), (2, 15), (22, 9), (22, 10), (22, 11), (22, 12), (2, 8), (28, 12), (28, 13), (28, 14), (1, 4), (28, 15), (3, 6), (3, 7), (3, 8), (26, 14), (26, 15), (26, 16), (26, 17), (26, 18), (26, 19), (26, 20), (26, 21), (3, 5), (26, 22), (26, 23), (27, 0), (27, 1), (27, 2), (18, 20), (18, 21), (18, 22), (2, 13), (2, 7), (16, 0), (16, 1), (16, 2), (16, 3), (2, 9), (2, 10), (2, 16), (16, 4), (16, 5), (16, 6), (16, 7), (2, 14), (16, 8), (16, 9), (16, 10), (16, 11), (16, 12), (16, 13), (16, 14), (16, 15), (16, 16), (16, 17), (16, 18), (16, 19), (10, 18), (16, 20), (27, 3), (27, 4), (27, 5), (27, 6), (21, 7), (21, 8), (21, 9), (21, 10), (21, 13), (21, 14), (21, 15), (21, 16), (2, 11), (27, 7), (27, 8), (27, 9), (27, 10), (29, 2), (29, 3), (29, 4), (29, 5), (1, 14), (1, 15)] (by exact rfl) (by decide +kernel)) y_gX7) y_gX6) y_gX2
theorem gL_law_X7_rows : GoodIn wsL_law (wsV RL 114 RX7 yX7_rows wsX7_rows) := goodIn_app (y_q _ [(28, 20), (28, 21), (28, 22), (0, 2)] (by exact rfl) (by decide +kernel)) ggL_law_X7_rows
theorem ggL_law_X8_rows : GoodIn wsL_law wsX8_rows := goodIn_ca (y_q _ [(29, 9), (5, 15), (15, 10), (29, 10), (4, 4), (7, 14), (3, 19), (20, 9), (20, 10), (20, 11), (0, 5), (20, 12), (15, 9), (5, 16), (5, 17), (5, 18), (19, 12), (19, 13), (19, 14), (19, 15), (27, 15), (27, 16), (27, 17), (27, 18), (27, 23), (28, 0), (28, 1), (28, 2), (25, 16), (25, 17), (25, 18), (25, 19), (22, 21), (22, 22), (22, 23), (23, 0), (22, 1), (22, 2), (22, 3), (22, 4), (3, 23), (3, 20), (17, 10), (17, 11), (17, 12), (17, 13), (3, 21), (3, 22), (17, 14), (17, 15), (17, 16), (17, 17), (17, 18), (17, 19), (17, 20), (17, 21), (17, 22)] (by exact rfl) (by decide +kernel)) y_gX8
theorem gL_law_X8_rows : GoodIn wsL_law (wsV RL 117 RX8 yX8_rows wsX8_rows) := goodIn_app (y_q _ [(29, 6), (29, 7), (29, 8), (0, 5)] (by exact rfl) (by decide +kernel)) ggL_law_X8_rows
theorem ggL_law_X7_stuck : GoodIn wsL_law wsX7_stuck := goodIn_ca (goodIn_ca (y_q _ [(29, 14), (0, 21), (29, 15)] (by exact rfl) (by decide +kernel)) y_gX7) y_gX2
theorem gL_law_X7_stuck : GoodIn wsL_law (wsV RL 118 RX7 yX7_stuck wsX7_stuck) := goodIn_app (y_q _ [(29, 11), (29, 12), (29, 13), (0, 2)] (by exact rfl) (by decide +kernel)) ggL_law_X7_stuck
theorem ggL_law_X8_stuck : GoodIn wsL_law wsX8_stuck := goodIn_ca (y_q _ [(29, 19), (15, 11)] (by exact rfl) (by decide +kernel)) y_gX8
theorem gL_law_X8_stuck : GoodIn wsL_law (wsV RL 121 RX8 yX8_stuck wsX8_stuck) := goodIn_app (y_q _ [(29, 16), (29, 17), (29, 18), (0, 5)] (by exact rfl) (by decide +kernel)) ggL_law_X8_stuck
theorem ggL_law_X7_way : GoodIn wsL_law wsX7_way := goodIn_ca (goodIn_ca (y_q _ [(29, 23), (0, 21), (29, 15), (30, 0), (30, 1), (30, 2), (30, 3), (30, 4), (30, 5), (30, 6), (30, 7), (30, 8), (30, 9)] (by exact rfl) (by decide +kernel)) y_gX7) y_gX2
theorem gL_law_X7_way : GoodIn wsL_law (wsV RL 122 RX7 yX7_way wsX7_way) := goodIn_app (y_q _ [(29, 20), (29, 21), (29, 22), (0, 2)] (by exact rfl) (by decide +kernel)) ggL_law_X7_way
theorem ggL_law_X8_way : GoodIn wsL_law wsX8_way := goodIn_ca (y_q _ [(30, 13), (15, 11), (30, 14), (30, 15), (0, 5), (30, 16), (30, 17), (5, 16), (5, 17), (5, 18), (30, 18), (30, 19), (30, 20), (30, 21), (4, 8), (14, 3), (14, 4), (14, 5), (30, 22), (30, 23), (31, 0)] (by exact rfl) (by decide +kernel)) y_gX8
theorem gL_law_X8_way : GoodIn wsL_law (wsV RL 125 RX8 yX8_way wsX8_way) := goodIn_app (y_q _ [(30, 10), (30, 11), (30, 12), (0, 5)] (by exact rfl) (by decide +kernel)) ggL_law_X8_way
theorem ggL_law_X7_cuts : GoodIn wsL_law wsX7_cuts := goodIn_ca (goodIn_ca (y_q _ [(31, 4), (0, 21), (29, 15), (30, 0), (30, 1), (30, 2), (30, 3), (31, 5), (31, 6), (31, 7), (31, 8), (30, 5), (30, 6), (30, 7), (30, 8), (30, 9)] (by exact rfl) (by decide +kernel)) y_gX7) y_gX2
theorem gL_law_X7_cuts : GoodIn wsL_law (wsV RL 126 RX7 yX7_cuts wsX7_cuts) := goodIn_app (y_q _ [(31, 1), (31, 2), (31, 3), (0, 2)] (by exact rfl) (by decide +kernel)) ggL_law_X7_cuts
theorem ggL_law_X8_cuts : GoodIn wsL_law wsX8_cuts := goodIn_ca (y_q _ [(31, 12), (15, 11), (30, 14), (30, 15), (0, 5), (30, 16), (30, 17), (5, 16), (5, 17), (5, 18), (30, 18), (30, 19), (30, 20), (30, 21), (4, 8), (14, 3), (14, 4), (14, 5), (30, 22), (30, 23), (31, 0)] (by exact rfl) (by decide +kernel)) y_gX8
theorem gL_law_X8_cuts : GoodIn wsL_law (wsV RL 129 RX8 yX8_cuts wsX8_cuts) := goodIn_app (y_q _ [(31, 9), (31, 10), (31, 11), (0, 5)] (by exact rfl) (by decide +kernel)) ggL_law_X8_cuts
theorem ggL_law_X7_round : GoodIn wsL_law wsX7_round := goodIn_ca (goodIn_ca (y_q _ [(31, 16), (0, 21), (29, 15), (30, 0), (30, 1), (30, 2), (30, 3), (30, 4), (30, 5), (30, 6), (30, 7), (30, 8), (30, 9)] (by exact rfl) (by decide +kernel)) y_gX7) y_gX2
theorem gL_law_X7_round : GoodIn wsL_law (wsV RL 130 RX7 yX7_round wsX7_round) := goodIn_app (y_q _ [(31, 13), (31, 14), (31, 15), (0, 2)] (by exact rfl) (by decide +kernel)) ggL_law_X7_round
theorem ggL_law_X8_round : GoodIn wsL_law wsX8_round := goodIn_ca (y_q _ [(31, 20), (15, 11), (30, 14), (30, 15), (0, 5), (30, 16), (30, 17), (5, 16), (5, 17), (5, 18), (30, 18), (30, 19), (30, 20), (30, 21), (4, 8), (14, 3), (14, 4), (14, 5), (30, 22), (30, 23), (31, 0)] (by exact rfl) (by decide +kernel)) y_gX8
theorem gL_law_X8_round : GoodIn wsL_law (wsV RL 133 RX8 yX8_round wsX8_round) := goodIn_app (y_q _ [(31, 17), (31, 18), (31, 19), (0, 5)] (by exact rfl) (by decide +kernel)) ggL_law_X8_round
theorem ggL_law_X7_never : GoodIn wsL_law wsX7_never := goodIn_ca (goodIn_ca (goodIn_ca (y_q _ [(32, 0), (32, 1), (32, 2), (32, 3), (0, 2), (32, 4), (0, 15), (8, 3), (0, 21), (6, 8), (6, 13), (6, 14), (6, 15), (6, 16), (4, 19), (4, 20), (4, 21), (0, 14), (4, 22), (1, 22), (6, 17), (6, 18), (6, 19), (6, 20), (5, 7), (4, 23), (5, 0), (5, 1), (5, 2), (1, 12), (1, 11), (15, 16), (15, 17), (15, 18), (0, 20), (15, 19), (2, 8), (32, 5), (32, 6), (32, 7), (32, 8), (32, 9)] (by exact rfl) (by decide +kernel)) y_gX7) y_gX5) y_gX2
theorem gL_law_X7_never : GoodIn wsL_law (wsV RL 134 RX7 yX7_never wsX7_never) := goodIn_app (y_q _ [(31, 21), (31, 22), (31, 23), (0, 2)] (by exact rfl) (by decide +kernel)) ggL_law_X7_never
theorem ggL_law_X8_never : GoodIn wsL_law wsX8_never := goodIn_ca (y_q _ [(32, 13), (5, 12), (5, 13), (0, 5), (5, 14), (5, 15), (5, 16), (5, 17), (5, 18), (32, 14), (32, 15), (32, 16), (32, 17), (4, 0), (4, 1), (5, 19), (5, 20), (5, 21), (5, 22), (5, 23), (4, 5), (17, 2), (17, 3), (17, 4), (17, 5), (15, 10), (32, 18), (32, 19), (32, 20), (32, 21), (3, 23)] (by exact rfl) (by decide +kernel)) y_gX8
theorem gL_law_X8_never : GoodIn wsL_law (wsV RL 137 RX8 yX8_never wsX8_never) := goodIn_app (y_q _ [(32, 10), (32, 11), (32, 12), (0, 5)] (by exact rfl) (by decide +kernel)) ggL_law_X8_never
theorem ggL_law_X7_next : GoodIn wsL_law wsX7_next := goodIn_ca (goodIn_ca (goodIn_ca (y_q _ [(33, 1), (0, 15), (0, 21), (14, 18), (32, 9), (1, 13), (4, 19), (4, 20), (4, 21), (0, 14), (4, 22), (1, 22), (22, 9), (22, 10), (22, 11), (0, 20), (22, 12), (2, 8), (2, 6), (32, 1), (32, 2), (32, 3), (0, 2), (32, 4), (8, 3), (6, 8), (6, 13), (6, 14), (6, 15), (6, 16), (6, 17), (6, 18), (6, 19), (6, 20), (5, 7), (4, 23), (5, 0), (5, 1), (5, 2), (1, 12), (1, 11), (15, 16), (15, 17), (15, 18), (15, 19), (32, 5), (32, 6), (32, 7), (32, 8), (18, 23), (16, 9), (16, 10), (16, 11), (16, 12), (16, 13), (16, 14), (26, 0), (16, 1), (16, 2), (16, 3), (2, 9), (2, 10), (2, 16), (16, 4), (16, 5), (16, 6), (16, 7), (2, 14), (16, 8), (16, 15), (16, 16), (16, 17), (16, 18), (16, 19), (10, 18), (16, 20)] (by exact rfl) (by decide +kernel)) y_gX7) y_gX2) y_gX5
theorem gL_law_X7_next : GoodIn wsL_law (wsV RL 138 RX7 yX7_next wsX7_next) := goodIn_app (y_q _ [(32, 22), (32, 23), (33, 0), (0, 2)] (by exact rfl) (by decide +kernel)) ggL_law_X7_next
theorem ggL_law_X8_next : GoodIn wsL_law wsX8_next := goodIn_ca (y_q _ [(33, 5), (15, 10), (3, 23), (7, 14), (5, 12), (5, 13), (0, 5), (5, 14), (5, 15), (5, 16), (5, 17), (5, 18), (32, 14), (32, 15), (32, 16), (32, 17), (4, 0), (4, 1), (5, 19), (5, 20), (5, 21), (5, 22), (5, 23), (4, 5), (17, 2), (17, 3), (17, 4), (17, 5), (32, 18), (32, 19), (32, 20), (32, 21), (17, 17), (17, 18), (17, 19), (17, 10), (17, 11), (17, 12), (17, 13), (3, 21), (3, 22), (3, 19), (17, 14), (17, 15), (17, 16), (17, 20), (17, 21), (17, 22)] (by exact rfl) (by decide +kernel)) y_gX8
theorem gL_law_X8_next : GoodIn wsL_law (wsV RL 141 RX8 yX8_next wsX8_next) := goodIn_app (y_q _ [(33, 2), (33, 3), (33, 4), (0, 5)] (by exact rfl) (by decide +kernel)) ggL_law_X8_next
theorem ggL_law_X7_kinds : GoodIn wsL_law wsX7_kinds := goodIn_ca (goodIn_ca (y_q _ [(33, 9), (0, 21), (18, 4), (15, 16), (15, 17), (15, 18), (0, 20), (15, 19), (2, 8), (33, 10), (16, 16), (16, 17), (16, 18), (16, 19), (10, 18), (16, 20)] (by exact rfl) (by decide +kernel)) y_gX7) y_gX2
theorem gL_law_X7_kinds : GoodIn wsL_law (wsV RL 142 RX7 yX7_kinds wsX7_kinds) := goodIn_app (y_q _ [(33, 6), (33, 7), (33, 8), (0, 2)] (by exact rfl) (by decide +kernel)) ggL_law_X7_kinds
theorem ggL_law_X8_kinds : GoodIn wsL_law wsX8_kinds := goodIn_ca (y_q _ [(33, 14), (33, 15), (33, 16), (9, 23), (3, 22), (17, 2), (17, 3), (17, 4), (0, 5), (17, 5), (15, 10), (5, 16), (5, 17), (5, 18), (17, 20), (17, 21), (17, 22)] (by exact rfl) (by decide +kernel)) y_gX8
theorem gL_law_X8_kinds : GoodIn wsL_law (wsV RL 146 RX8 yX8_kinds wsX8_kinds) := goodIn_app (y_q _ [(33, 11), (33, 12), (33, 13), (0, 5)] (by exact rfl) (by decide +kernel)) ggL_law_X8_kinds
theorem ggL_law_X7_duel : GoodIn wsL_law wsX7_duel := goodIn_ca (goodIn_ca (y_q _ [(33, 20), (0, 21), (33, 21), (33, 22), (33, 23), (0, 2), (34, 0), (20, 1), (20, 2), (20, 3), (0, 20), (20, 4), (2, 6), (20, 19), (18, 16), (18, 17), (18, 18), (2, 15), (22, 9), (22, 10), (22, 11), (22, 12), (2, 8), (34, 1), (34, 2), (34, 3), (34, 4), (34, 5), (16, 19), (10, 18), (16, 20), (34, 6), (34, 7), (34, 8), (34, 9), (34, 10), (34, 11), (18, 20), (18, 21), (18, 22), (2, 13), (2, 7), (16, 0), (16, 1), (16, 2), (16, 3), (2, 9), (2, 10), (2, 16), (16, 4), (16, 5), (16, 6), (16, 7), (2, 14), (16, 8), (16, 9), (16, 10), (16, 11), (16, 12), (16, 13), (16, 14), (16, 15), (16, 16), (16, 17), (16, 18), (34, 12), (27, 4), (27, 5), (27, 6), (21, 7), (21, 8), (21, 9), (21, 10), (21, 13), (21, 14), (21, 15), (21, 16), (2, 11), (34, 13), (34, 14), (27, 8), (27, 9), (27, 10)] (by exact rfl) (by decide +kernel)) y_gX7) y_gX2
theorem gL_law_X7_duel : GoodIn wsL_law (wsV RL 147 RX7 yX7_duel wsX7_duel) := goodIn_app (y_q _ [(33, 17), (33, 18), (33, 19), (0, 2)] (by exact rfl) (by decide +kernel)) ggL_law_X7_duel
theorem ggL_law_X8_duel : GoodIn wsL_law wsX8_duel := goodIn_ca (y_q _ [(34, 18), (34, 19), (34, 20), (34, 21), (0, 5), (34, 22), (15, 10), (20, 9), (20, 10), (20, 11), (20, 12), (15, 9), (5, 16), (5, 17), (5, 18), (19, 12), (19, 13), (19, 14), (19, 15), (3, 19), (34, 23), (35, 0), (35, 1), (35, 2), (4, 9), (4, 13), (4, 12), (4, 10), (3, 21), (3, 22), (4, 11), (3, 20), (3, 23), (35, 3), (35, 4), (35, 5), (35, 6), (35, 7), (35, 8), (35, 9), (35, 10), (35, 11), (35, 12), (35, 13), (35, 14), (35, 15), (14, 3), (14, 4), (14, 5), (17, 14), (17, 15), (17, 16), (17, 17), (17, 18), (17, 19), (17, 20), (17, 21), (17, 22)] (by exact rfl) (by decide +kernel)) y_gX8
theorem gL_law_X8_duel : GoodIn wsL_law (wsV RL 150 RX8 yX8_duel wsX8_duel) := goodIn_app (y_q _ [(34, 15), (34, 16), (34, 17), (0, 5)] (by exact rfl) (by decide +kernel)) ggL_law_X8_duel
theorem ggL_law_X7_opens : GoodIn wsL_law wsX7_opens := goodIn_ca (goodIn_ca (y_q _ [(35, 19), (0, 21), (33, 21), (33, 22), (33, 23), (0, 2), (34, 0), (20, 1), (20, 2), (20, 3), (0, 20), (20, 4), (2, 6), (20, 19), (18, 16), (18, 17), (18, 18), (2, 15), (22, 9), (22, 10), (22, 11), (22, 12), (2, 8), (35, 20), (35, 21), (34, 2), (35, 22), (34, 4), (34, 6), (34, 7), (34, 8), (34, 9), (34, 10), (34, 11), (18, 20), (18, 21), (18, 22), (2, 13), (2, 7), (16, 0), (16, 1), (16, 2), (16, 3), (2, 9), (2, 10), (2, 16), (16, 4), (16, 5), (16, 6), (16, 7), (2, 14), (16, 8), (16, 9), (16, 10), (16, 11), (16, 12), (16, 13), (16, 14), (16, 15), (16, 16), (16, 17), (16, 18), (16, 19), (10, 18), (16, 20), (34, 12), (27, 4), (27, 5), (27, 6), (21, 7), (21, 8), (21, 9), (21, 10), (21, 13), (21, 14), (21, 15), (21, 16), (2, 11), (34, 13), (34, 1), (34, 14), (27, 8), (27, 9), (27, 10), (34, 3), (34, 5)] (by exact rfl) (by decide +kernel)) y_gX7) y_gX2
theorem gL_law_X7_opens : GoodIn wsL_law (wsV RL 151 RX7 yX7_opens wsX7_opens) := goodIn_app (y_q _ [(35, 16), (35, 17), (35, 18), (0, 2)] (by exact rfl) (by decide +kernel)) ggL_law_X7_opens
theorem ggL_law_X8_opens : GoodIn wsL_law wsX8_opens := goodIn_ca (y_q _ [(36, 2), (35, 11), (34, 19), (34, 20), (34, 21), (0, 5), (34, 22), (15, 10), (20, 9), (20, 10), (20, 11), (20, 12), (15, 9), (5, 16), (5, 17), (5, 18), (19, 12), (19, 13), (19, 14), (19, 15), (3, 19), (34, 23), (35, 0), (35, 1), (35, 2), (4, 9), (4, 13), (4, 12), (4, 10), (3, 21), (3, 22), (4, 11), (3, 20), (3, 23), (35, 3), (35, 4), (35, 5), (35, 6), (35, 7), (35, 8), (35, 9), (35, 10), (35, 12), (35, 13), (35, 14), (35, 15), (14, 3), (14, 4), (14, 5), (17, 14), (17, 15), (17, 16), (17, 17), (17, 18), (17, 19), (17, 20), (17, 21), (17, 22)] (by exact rfl) (by decide +kernel)) y_gX8
theorem gL_law_X8_opens : GoodIn wsL_law (wsV RL 154 RX8 yX8_opens wsX8_opens) := goodIn_app (y_q _ [(35, 23), (36, 0), (36, 1), (0, 5)] (by exact rfl) (by decide +kernel)) ggL_law_X8_opens
theorem ggL_law_X7_mid : GoodIn wsL_law wsX7_mid := goodIn_ca (goodIn_ca (goodIn_ca (y_q _ [(36, 6), (0, 21), (1, 9), (20, 18), (36, 7), (36, 8), (36, 9), (1, 8), (36, 10), (22, 9), (22, 10), (22, 11), (0, 20), (22, 12), (2, 8), (2, 6), (36, 11), (36, 12), (36, 13), (36, 14), (3, 13), (3, 14), (36, 15), (36, 16), (36, 17), (2, 1), (36, 18), (36, 19), (36, 20), (36, 21), (36, 22), (36, 23), (16, 19), (10, 18), (16, 20), (29, 2), (29, 3), (29, 4), (0, 2), (29, 5), (1, 14), (1, 15)] (by exact rfl) (by decide +kernel)) y_gX7) y_gX2) y_gX0
theorem gL_law_X7_mid : GoodIn wsL_law (wsV RL 155 RX7 yX7_mid wsX7_mid) := goodIn_app (y_q _ [(36, 3), (36, 4), (36, 5), (0, 2)] (by exact rfl) (by decide +kernel)) ggL_law_X7_mid
theorem ggL_law_X8_mid : GoodIn wsL_law wsX8_mid := goodIn_ca (y_q _ [(37, 3), (37, 4), (15, 10), (4, 14), (5, 16), (5, 17), (0, 5), (5, 18), (37, 5), (37, 6), (37, 7), (37, 8), (37, 9), (37, 10), (37, 11), (37, 12), (3, 19), (37, 13), (37, 14), (37, 15), (37, 16), (29, 10), (4, 4)] (by exact rfl) (by decide +kernel)) y_gX8
theorem gL_law_X8_mid : GoodIn wsL_law (wsV RL 158 RX8 yX8_mid wsX8_mid) := goodIn_app (y_q _ [(37, 0), (37, 1), (37, 2), (0, 5)] (by exact rfl) (by decide +kernel)) ggL_law_X8_mid
theorem ggL_law_X7_odds : GoodIn wsL_law wsX7_odds := goodIn_ca (goodIn_ca (goodIn_ca (y_q _ [(37, 20), (0, 21), (1, 9), (20, 0), (20, 18), (36, 7), (20, 1), (20, 2), (20, 3), (0, 20), (20, 4), (2, 6), (15, 16), (15, 17), (15, 18), (15, 19), (2, 8), (36, 8), (36, 9), (1, 8), (36, 10), (20, 19), (18, 16), (18, 17), (18, 18), (2, 15), (22, 9), (22, 10), (22, 11), (22, 12), (36, 11), (36, 12), (36, 13), (36, 14), (3, 13), (3, 14), (36, 15), (36, 16), (36, 17), (2, 1), (36, 18), (26, 0), (16, 1), (16, 2), (16, 3), (2, 9), (2, 10), (2, 16), (16, 4), (16, 5), (16, 6), (16, 7), (2, 14), (16, 8), (16, 9), (16, 10), (16, 11), (16, 12), (16, 13), (16, 14), (16, 15), (16, 16), (16, 17), (16, 18), (16, 19), (10, 18), (16, 20), (37, 21), (37, 22), (37, 23), (38, 0), (36, 23), (29, 2), (29, 3), (29, 4), (0, 2), (29, 5), (1, 14), (1, 15)] (by exact rfl) (by decide +kernel)) y_gX7) y_gX2) y_gX0
theorem gL_law_X7_odds : GoodIn wsL_law (wsV RL 159 RX7 yX7_odds wsX7_odds) := goodIn_app (y_q _ [(37, 17), (37, 18), (37, 19), (0, 2)] (by exact rfl) (by decide +kernel)) ggL_law_X7_odds
theorem ggL_law_X8_odds : GoodIn wsL_law wsX8_odds := goodIn_ca (y_q _ [(38, 4), (37, 4), (3, 20), (4, 14), (20, 9), (20, 10), (20, 11), (0, 5), (20, 12), (15, 9), (5, 16), (5, 17), (5, 18), (17, 2), (17, 3), (17, 4), (17, 5), (15, 10), (19, 12), (19, 13), (19, 14), (19, 15), (3, 19), (37, 5), (37, 6), (37, 7), (37, 8), (37, 9), (37, 10), (37, 11), (37, 12), (17, 10), (17, 11), (17, 12), (17, 13), (3, 21), (3, 22), (17, 14), (17, 15), (17, 16), (17, 17), (17, 18), (17, 19), (17, 20), (17, 21), (17, 22), (37, 13), (37, 14), (37, 15), (37, 16), (29, 10), (4, 4)] (by exact rfl) (by decide +kernel)) y_gX8
theorem gL_law_X8_odds : GoodIn wsL_law (wsV RL 162 RX8 yX8_odds wsX8_odds) := goodIn_app (y_q _ [(38, 1), (38, 2), (38, 3), (0, 5)] (by exact rfl) (by decide +kernel)) ggL_law_X8_odds
theorem ggL_law_X7_lots : GoodIn wsL_law wsX7_lots := goodIn_ca (goodIn_ca (y_q _ [(38, 8), (38, 9), (0, 21), (20, 17), (38, 10), (20, 18), (22, 9), (22, 10), (22, 11), (0, 20), (22, 12), (2, 8), (2, 6), (38, 11), (38, 12), (38, 13), (38, 14), (38, 15), (38, 16), (38, 17), (38, 18), (18, 15), (18, 16), (18, 17), (18, 18), (2, 15), (18, 19), (18, 20), (18, 21), (18, 22), (2, 13), (2, 7), (16, 0), (16, 1), (16, 2), (16, 3), (2, 9), (2, 10), (2, 16), (16, 4), (16, 5), (16, 6), (16, 7), (2, 14), (16, 8), (16, 9), (16, 10), (16, 11), (16, 12), (16, 13), (16, 14), (16, 15), (16, 16), (16, 17), (16, 18), (16, 19), (10, 18), (16, 20), (38, 19), (20, 21), (20, 22), (20, 23), (21, 0), (21, 1), (21, 2), (2, 17), (2, 18), (21, 3), (21, 4), (21, 5), (21, 6), (21, 7), (21, 8), (21, 9), (21, 10), (21, 11), (20, 2), (20, 3), (20, 4), (21, 12), (15, 17), (15, 18), (15, 19), (21, 13), (21, 14), (21, 15), (21, 16), (2, 11)] (by exact rfl) (by decide +kernel)) y_gX7) y_gX2
theorem gL_law_X7_lots : GoodIn wsL_law (wsV RL 163 RX7 yX7_lots wsX7_lots) := goodIn_app (y_q _ [(38, 5), (38, 6), (38, 7), (0, 2)] (by exact rfl) (by decide +kernel)) ggL_law_X7_lots
theorem ggL_law_X8_lots : GoodIn wsL_law wsX8_lots := goodIn_ca (y_q _ [(38, 23), (39, 0), (39, 1), (15, 10), (3, 19), (39, 2), (39, 3), (39, 4), (15, 9), (39, 5), (17, 1), (5, 16), (5, 17), (0, 5), (5, 18), (19, 12), (19, 13), (19, 14), (19, 15), (19, 16), (19, 17), (19, 18), (19, 19), (3, 20), (17, 10), (17, 11), (17, 12), (17, 13), (3, 21), (3, 22), (17, 14), (17, 15), (17, 16), (17, 17), (17, 18), (17, 19), (17, 20), (17, 21), (17, 22), (22, 17), (22, 18), (22, 19), (22, 20), (21, 21), (21, 22), (21, 23), (22, 0), (22, 21), (22, 22), (22, 23), (23, 0), (22, 1), (22, 2), (22, 3), (22, 4), (3, 23)] (by exact rfl) (by decide +kernel)) y_gX8
theorem gL_law_X8_lots : GoodIn wsL_law (wsV RL 166 RX8 yX8_lots wsX8_lots) := goodIn_app (y_q _ [(38, 20), (38, 21), (38, 22), (0, 5)] (by exact rfl) (by decide +kernel)) ggL_law_X8_lots
theorem ggL_law_X7_asked : GoodIn wsL_law wsX7_asked := goodIn_ca (y_q _ [(39, 9), (1, 13)] (by exact rfl) (by decide +kernel)) y_gX7
theorem gL_law_X7_asked : GoodIn wsL_law (wsV RL 167 RX7 yX7_asked wsX7_asked) := goodIn_app (y_q _ [(39, 6), (39, 7), (39, 8), (0, 2)] (by exact rfl) (by decide +kernel)) ggL_law_X7_asked
theorem ggL_law_X8_asked : GoodIn wsL_law wsX8_asked := goodIn_ca (y_q _ [(39, 13), (7, 14)] (by exact rfl) (by decide +kernel)) y_gX8
theorem gL_law_X8_asked : GoodIn wsL_law (wsV RL 170 RX8 yX8_asked wsX8_asked) := goodIn_app (y_q _ [(39, 10), (39, 11), (39, 12), (0, 5)] (by exact rfl) (by decide +kernel)) ggL_law_X8_asked
theorem ggL_law_X7_upper : GoodIn wsL_law wsX7_upper := goodIn_ca (y_q _ [(39, 17), (1, 14)] (by exact rfl) (by decide +kernel)) y_gX7
theorem gL_law_X7_upper : GoodIn wsL_law (wsV RL 171 RX7 yX7_upper wsX7_upper) := goodIn_app (y_q _ [(39, 14), (39, 15), (39, 16), (0, 2)] (by exact rfl) (by decide +kernel)) ggL_law_X7_upper
theorem ggL_law_X8_upper : GoodIn wsL_law wsX8_upper := goodIn_ca (y_q _ [(39, 21), (29, 10)] (by exact rfl) (by decide +kernel)) y_gX8
theorem gL_law_X8_upper : GoodIn wsL_law (wsV RL 175 RX8 yX8_upper wsX8_upper) := goodIn_app (y_q _ [(39, 18), (39, 19), (39, 20), (0, 5)] (by exact rfl) (by decide +kernel)) ggL_law_X8_upper
theorem ggL_law_X7_lower : GoodIn wsL_law wsX7_lower := goodIn_ca (y_q _ [(40, 1), (1, 15)] (by exact rfl) (by decide +kernel)) y_gX7
theorem gL_law_X7_lower : GoodIn wsL_law (wsV RL 176 RX7 yX7_lower wsX7_lower) := goodIn_app (y_q _ [(39, 22), (39, 23), (40, 0), (0, 2)] (by exact rfl) (by decide +kernel)) ggL_law_X7_lower
theorem ggL_law_X8_lower : GoodIn wsL_law wsX8_lower := goodIn_ca (y_q _ [(40, 5), (4, 4)] (by exact rfl) (by decide +kernel)) y_gX8
theorem gL_law_X8_lower : GoodIn wsL_law (wsV RL 179 RX8 yX8_lower wsX8_lower) := goodIn_app (y_q _ [(40, 2), (40, 3), (40, 4), (0, 5)] (by exact rfl) (by decide +kernel)) ggL_law_X8_lower
theorem ggL_law_X7_count : GoodIn wsL_law wsX7_count := goodIn_ca (goodIn_ca (goodIn_ca (y_q _ [(40, 9), (0, 21), (14, 18), (40, 10), (20, 17), (20, 18), (40, 11), (40, 12), (0, 15), (0, 16), (0, 17), (40, 13), (40, 14), (40, 15), (0, 20), (40, 16), (2, 17), (2, 18), (40, 17), (40, 18), (40, 19), (40, 20), (2, 8), (40, 21), (18, 7), (18, 8), (18, 9), (2, 9), (40, 22), (40, 23), (41, 0), (0, 14), (41, 1), (1, 22)] (by exact rfl) (by decide +kernel)) y_gX7) y_gX2) y_gX5
theorem gL_law_X7_count : GoodIn wsL_law (wsV RL 180 RX7 yX7_count wsX7_count) := goodIn_app (y_q _ [(40, 6), (40, 7), (40, 8), (0, 2)] (by exact rfl) (by decide +kernel)) ggL_law_X7_count
theorem ggL_law_X8_count : GoodIn wsL_law wsX8_count := goodIn_ca (y_q _ [(41, 5), (41, 6), (5, 16), (5, 17), (0, 5), (5, 18), (41, 7), (41, 8), (41, 9), (41, 10), (15, 10), (15, 9), (3, 19), (41, 11), (41, 12), (41, 13), (41, 14), (19, 4), (19, 5), (19, 6), (19, 7), (3, 21), (41, 15), (41, 16), (41, 17), (41, 18), (4, 0), (4, 2)] (by exact rfl) (by decide +kernel)) y_gX8
theorem gL_law_X8_count : GoodIn wsL_law (wsV RL 183 RX8 yX8_count wsX8_count) := goodIn_app (y_q _ [(41, 2), (41, 3), (41, 4), (0, 5)] (by exact rfl) (by decide +kernel)) ggL_law_X8_count
theorem ggL_law_X7_finding : GoodIn wsL_law wsX7_finding := goodIn_ca (y_q _ [(41, 22), (1, 12)] (by exact rfl) (by decide +kernel)) y_gX7
theorem gL_law_X7_finding : GoodIn wsL_law (wsV RL 184 RX7 yX7_finding wsX7_finding) := goodIn_app (y_q _ [(41, 19), (41, 20), (41, 21), (0, 2)] (by exact rfl) (by decide +kernel)) ggL_law_X7_finding
theorem ggL_law_X8_finding : GoodIn wsL_law wsX8_finding := goodIn_ca (y_q _ [(42, 2), (5, 23)] (by exact rfl) (by decide +kernel)) y_gX8
theorem gL_law_X8_finding : GoodIn wsL_law (wsV RL 187 RX8 yX8_finding wsX8_finding) := goodIn_app (y_q _ [(41, 23), (42, 0), (42, 1), (0, 5)] (by exact rfl) (by decide +kernel)) ggL_law_X8_finding
theorem ggL_law_X7_findings : GoodIn wsL_law wsX7_findings := goodIn_ca (y_q _ [(42, 6), (1, 11)] (by exact rfl) (by decide +kernel)) y_gX7
theorem gL_law_X7_findings : GoodIn wsL_law (wsV RL 188 RX7 yX7_findings wsX7_findings) := goodIn_app (y_q _ [(42, 3), (42, 4), (42, 5), (0, 2)] (by exact rfl) (by decide +kernel)) ggL_law_X7_findings
theorem ggL_law_X8_findings : GoodIn wsL_law wsX8_findings := goodIn_ca (y_q _ [(42, 10), (5, 15), (4, 5), (5, 16), (5, 17), (0, 5), (5, 18)] (by exact rfl) (by decide +kernel)) y_gX8
theorem gL_law_X8_findings : GoodIn wsL_law (wsV RL 191 RX8 yX8_findings wsX8_findings) := goodIn_app (y_q _ [(42, 7), (42, 8), (42, 9), (0, 5)] (by exact rfl) (by decide +kernel)) ggL_law_X8_findings
theorem ggL_law_X7_digest : GoodIn wsL_law wsX7_digest := goodIn_ca (goodIn_ca (goodIn_ca (y_q _ [(42, 14), (42, 15), (42, 16), (0, 21), (40, 10), (20, 0), (14, 18), (29, 15), (0, 17), (8, 3), (0, 16), (0, 15), (42, 17), (40, 7), (40, 8), (0, 2), (40, 9), (20, 17), (20, 18), (40, 11), (40, 12), (40, 13), (40, 14), (40, 15), (0, 20), (40, 16), (2, 17), (2, 18), (40, 17), (40, 18), (40, 19), (40, 20), (2, 8), (40, 21), (18, 7), (18, 8), (18, 9), (2, 9), (40, 22), (40, 23), (41, 0), (0, 14), (41, 1), (1, 22), (15, 20), (15, 21), (15, 22), (15, 23), (2, 10), (2, 11), (2, 16), (16, 0), (16, 1), (16, 2), (16, 3), (16, 4), (16, 5), (16, 6), (16, 7), (2, 14), (16, 8), (16, 9), (16, 10), (16, 11), (16, 12), (16, 13), (16, 14), (16, 15), (16, 16), (16, 17), (16, 18), (16, 19), (10, 18), (16, 20), (42, 18), (42, 19), (42, 20), (42, 21), (42, 22), (1, 21)] (by exact rfl) (by decide +kernel)) y_gX7) y_gX2) y_gX5
theorem gL_law_X7_digest : GoodIn wsL_law (wsV RL 192 RX7 yX7_digest wsX7_digest) := goodIn_app (y_q _ [(42, 11), (42, 12), (42, 13), (0, 2)] (by exact rfl) (by decide +kernel)) ggL_law_X7_digest
theorem ggL_law_X8_digest : GoodIn wsL_law wsX8_digest := goodIn_ca (y_q _ [(43, 2), (43, 3), (43, 4), (15, 9), (3, 20), (15, 10), (15, 11), (3, 19), (4, 0), (4, 1), (4, 2), (4, 3), (41, 7), (41, 8), (41, 9), (0, 5), (41, 10), (41, 11), (41, 12), (41, 13), (41, 14), (19, 4), (19, 5), (19, 6), (19, 7), (3, 21), (41, 15), (41, 16), (41, 17), (41, 18), (17, 6), (17, 7), (17, 8), (17, 9), (3, 22), (3, 23), (17, 10), (17, 11), (17, 12), (17, 13), (17, 14), (17, 15), (17, 16), (17, 17), (17, 18), (17, 19), (17, 20), (17, 21), (17, 22)] (by exact rfl) (by decide +kernel)) y_gX8
theorem gL_law_X8_digest : GoodIn wsL_law (wsV RL 195 RX8 yX8_digest wsX8_digest) := goodIn_app (y_q _ [(42, 23), (43, 0), (43, 1), (0, 5)] (by exact rfl) (by decide +kernel)) ggL_law_X8_digest
theorem dL_law_0 : decode cL_law 0 = .ok (.new 7, 3) := by decide +kernel
theorem dL_law_3 : decode cL_law 3 = .ok (.dup, 1) := by decide +kernel
theorem dL_law_4 : decode cL_law 4 = .ok (.invokespecial 9, 3) := by decide +kernel
theorem dL_law_7 : decode cL_law 7 = .ok (.astore_n 1, 1) := by decide +kernel
theorem dL_law_8 : decode cL_law 8 = .ok (.new 10, 3) := by decide +kernel
theorem dL_law_11 : decode cL_law 11 = .ok (.dup, 1) := by decide +kernel
theorem dL_law_12 : decode cL_law 12 = .ok (.invokespecial 12, 3) := by decide +kernel
theorem dL_law_15 : decode cL_law 15 = .ok (.astore_n 2, 1) := by decide +kernel
theorem dL_law_16 : decode cL_law 16 = .ok (.iconst 0, 1) := by decide +kernel
theorem dL_law_17 : decode cL_law 17 = .ok (.istore_n 3, 1) := by decide +kernel
theorem dL_law_18 : decode cL_law 18 = .ok (.iload_n 3, 1) := by decide +kernel
theorem dL_law_19 : decode cL_law 19 = .ok (.aload_n 0, 1) := by decide +kernel
theorem dL_law_20 : decode cL_law 20 = .ok (.arraylength, 1) := by decide +kernel
theorem dL_law_21 : decode cL_law 21 = .ok (.bipush 6, 2) := by decide +kernel
theorem dL_law_23 : decode cL_law 23 = .ok (.isub, 1) := by decide +kernel
theorem dL_law_24 : decode cL_law 24 = .ok (.if_icmp .gt 1461, 3) := by decide +kernel
theorem dL_law_27 : decode cL_law 27 = .ok (.aload_n 0, 1) := by decide +kernel
theorem dL_law_28 : decode cL_law 28 = .ok (.iload_n 3, 1) := by decide +kernel
theorem dL_law_29 : decode cL_law 29 = .ok (.iaload, 1) := by decide +kernel
theorem dL_law_30 : decode cL_law 30 = .ok (.bipush 63, 2) := by decide +kernel
theorem dL_law_32 : decode cL_law 32 = .ok (.iand, 1) := by decide +kernel
theorem dL_law_33 : decode cL_law 33 = .ok (.tableswitch 1446 0 43 #[191, 224, 267, 300, 323, 386, 409, 442, 485, 508, 531, 564, 597, 620, 653, 666, 689, 712, 735, 758, 781, 804, 837, 870, 903, 936, 949, 982, 1015, 1048, 1071, 1094, 1147, 1180, 1213, 1246, 1299, 1332, 1345, 1359, 1373, 1396, 1409, 1432], 191) := by decide +kernel
theorem dL_law_224 : decode cL_law 224 = .ok (.aload_n 1, 1) := by decide +kernel
theorem dL_law_225 : decode cL_law 225 = .ok (.aload_n 0, 1) := by decide +kernel
theorem dL_law_226 : decode cL_law 226 = .ok (.iload_n 3, 1) := by decide +kernel
theorem dL_law_227 : decode cL_law 227 = .ok (.iconst 1, 1) := by decide +kernel
theorem dL_law_228 : decode cL_law 228 = .ok (.iadd, 1) := by decide +kernel
theorem dL_law_229 : decode cL_law 229 = .ok (.iaload, 1) := by decide +kernel
theorem dL_law_230 : decode cL_law 230 = .ok (.aload_n 0, 1) := by decide +kernel
theorem dL_law_231 : decode cL_law 231 = .ok (.iload_n 3, 1) := by decide +kernel
theorem dL_law_232 : decode cL_law 232 = .ok (.iconst 2, 1) := by decide +kernel
theorem dL_law_233 : decode cL_law 233 = .ok (.iadd, 1) := by decide +kernel
theorem dL_law_234 : decode cL_law 234 = .ok (.iaload, 1) := by decide +kernel
theorem dL_law_235 : decode cL_law 235 = .ok (.invokevirtual 13, 3) := by decide +kernel
theorem dL_law_238 : decode cL_law 238 = .ok (.aload_n 2, 1) := by decide +kernel
theorem dL_law_239 : decode cL_law 239 = .ok (.aload_n 0, 1) := by decide +kernel
theorem dL_law_240 : decode cL_law 240 = .ok (.iload_n 3, 1) := by decide +kernel
theorem dL_law_241 : decode cL_law 241 = .ok (.iconst 1, 1) := by decide +kernel
theorem dL_law_242 : decode cL_law 242 = .ok (.iadd, 1) := by decide +kernel
theorem dL_law_243 : decode cL_law 243 = .ok (.iaload, 1) := by decide +kernel
theorem dL_law_244 : decode cL_law 244 = .ok (.aload_n 0, 1) := by decide +kernel
theorem dL_law_245 : decode cL_law 245 = .ok (.iload_n 3, 1) := by decide +kernel
theorem dL_law_246 : decode cL_law 246 = .ok (.iconst 2, 1) := by decide +kernel
theorem dL_law_247 : decode cL_law 247 = .ok (.iadd, 1) := by decide +kernel
theorem dL_law_248 : decode cL_law 248 = .ok (.iaload, 1) := by decide +kernel
theorem dL_law_249 : decode cL_law 249 = .ok (.invokevirtual 17, 3) := by decide +kernel
theorem dL_law_252 : decode cL_law 252 = .ok (.if_icmp .eq 1227, 3) := by decide +kernel
theorem dL_law_255 : decode cL_law 255 = .ok (.iconst 0, 1) := by decide +kernel
theorem dL_law_256 : decode cL_law 256 = .ok (.ireturn, 1) := by decide +kernel
theorem dL_law_257 : decode cL_law 257 = .ok (.aload_n 1, 1) := by decide +kernel
theorem dL_law_258 : decode cL_law 258 = .ok (.aload_n 0, 1) := by decide +kernel
theorem dL_law_259 : decode cL_law 259 = .ok (.iload_n 3, 1) := by decide +kernel
theorem dL_law_260 : decode cL_law 260 = .ok (.iconst 1, 1) := by decide +kernel
theorem dL_law_261 : decode cL_law 261 = .ok (.iadd, 1) := by decide +kernel
theorem dL_law_262 : decode cL_law 262 = .ok (.iaload, 1) := by decide +kernel
theorem dL_law_263 : decode cL_law 263 = .ok (.aload_n 0, 1) := by decide +kernel
theorem dL_law_264 : decode cL_law 264 = .ok (.iload_n 3, 1) := by decide +kernel
theorem dL_law_265 : decode cL_law 265 = .ok (.iconst 2, 1) := by decide +kernel
theorem dL_law_266 : decode cL_law 266 = .ok (.iadd, 1) := by decide +kernel
theorem dL_law_267 : decode cL_law 267 = .ok (.iaload, 1) := by decide +kernel
theorem dL_law_268 : decode cL_law 268 = .ok (.aload_n 0, 1) := by decide +kernel
theorem dL_law_269 : decode cL_law 269 = .ok (.iload_n 3, 1) := by decide +kernel
theorem dL_law_270 : decode cL_law 270 = .ok (.iconst 3, 1) := by decide +kernel
theorem dL_law_271 : decode cL_law 271 = .ok (.iadd, 1) := by decide +kernel
theorem dL_law_272 : decode cL_law 272 = .ok (.iaload, 1) := by decide +kernel
theorem dL_law_273 : decode cL_law 273 = .ok (.invokevirtual 18, 3) := by decide +kernel
theorem dL_law_276 : decode cL_law 276 = .ok (.aload_n 2, 1) := by decide +kernel
theorem dL_law_277 : decode cL_law 277 = .ok (.aload_n 0, 1) := by decide +kernel
theorem dL_law_278 : decode cL_law 278 = .ok (.iload_n 3, 1) := by decide +kernel
theorem dL_law_279 : decode cL_law 279 = .ok (.iconst 1, 1) := by decide +kernel
theorem dL_law_280 : decode cL_law 280 = .ok (.iadd, 1) := by decide +kernel
theorem dL_law_281 : decode cL_law 281 = .ok (.iaload, 1) := by decide +kernel
theorem dL_law_282 : decode cL_law 282 = .ok (.aload_n 0, 1) := by decide +kernel
theorem dL_law_283 : decode cL_law 283 = .ok (.iload_n 3, 1) := by decide +kernel
theorem dL_law_284 : decode cL_law 284 = .ok (.iconst 2, 1) := by decide +kernel
theorem dL_law_285 : decode cL_law 285 = .ok (.iadd, 1) := by decide +kernel
theorem dL_law_286 : decode cL_law 286 = .ok (.iaload, 1) := by decide +kernel
theorem dL_law_287 : decode cL_law 287 = .ok (.aload_n 0, 1) := by decide +kernel
theorem dL_law_288 : decode cL_law 288 = .ok (.iload_n 3, 1) := by decide +kernel
theorem dL_law_289 : decode cL_law 289 = .ok (.iconst 3, 1) := by decide +kernel
theorem dL_law_290 : decode cL_law 290 = .ok (.iadd, 1) := by decide +kernel
theorem dL_law_291 : decode cL_law 291 = .ok (.iaload, 1) := by decide +kernel
theorem dL_law_292 : decode cL_law 292 = .ok (.invokevirtual 22, 3) := by decide +kernel
theorem dL_law_295 : decode cL_law 295 = .ok (.if_icmp .eq 1184, 3) := by decide +kernel
theorem dL_law_298 : decode cL_law 298 = .ok (.iconst 0, 1) := by decide +kernel
theorem dL_law_299 : decode cL_law 299 = .ok (.ireturn, 1) := by decide +kernel
theorem dL_law_300 : decode cL_law 300 = .ok (.aload_n 1, 1) := by decide +kernel
theorem dL_law_301 : decode cL_law 301 = .ok (.aload_n 0, 1) := by decide +kernel
theorem dL_law_302 : decode cL_law 302 = .ok (.iload_n 3, 1) := by decide +kernel
theorem dL_law_303 : decode cL_law 303 = .ok (.iconst 1, 1) := by decide +kernel
theorem dL_law_304 : decode cL_law 304 = .ok (.iadd, 1) := by decide +kernel
theorem dL_law_305 : decode cL_law 305 = .ok (.iaload, 1) := by decide +kernel
theorem dL_law_306 : decode cL_law 306 = .ok (.aload_n 0, 1) := by decide +kernel
theorem dL_law_307 : decode cL_law 307 = .ok (.iload_n 3, 1) := by decide +kernel
theorem dL_law_308 : decode cL_law 308 = .ok (.iconst 2, 1) := by decide +kernel
theorem dL_law_309 : decode cL_law 309 = .ok (.iadd, 1) := by decide +kernel
theorem dL_law_310 : decode cL_law 310 = .ok (.iaload, 1) := by decide +kernel
theorem dL_law_311 : decode cL_law 311 = .ok (.invokevirtual 23, 3) := by decide +kernel
theorem dL_law_314 : decode cL_law 314 = .ok (.aload_n 2, 1) := by decide +kernel
theorem dL_law_315 : decode cL_law 315 = .ok (.aload_n 0, 1) := by decide +kernel
theorem dL_law_316 : decode cL_law 316 = .ok (.iload_n 3, 1) := by decide +kernel
theorem dL_law_317 : decode cL_law 317 = .ok (.iconst 1, 1) := by decide +kernel
theorem dL_law_318 : decode cL_law 318 = .ok (.iadd, 1) := by decide +kernel
theorem dL_law_319 : decode cL_law 319 = .ok (.iaload, 1) := by decide +kernel
theorem dL_law_320 : decode cL_law 320 = .ok (.aload_n 0, 1) := by decide +kernel
theorem dL_law_321 : decode cL_law 321 = .ok (.iload_n 3, 1) := by decide +kernel
theorem dL_law_322 : decode cL_law 322 = .ok (.iconst 2, 1) := by decide +kernel
theorem dL_law_323 : decode cL_law 323 = .ok (.iadd, 1) := by decide +kernel
theorem dL_law_324 : decode cL_law 324 = .ok (.iaload, 1) := by decide +kernel
theorem dL_law_325 : decode cL_law 325 = .ok (.invokevirtual 26, 3) := by decide +kernel
theorem dL_law_328 : decode cL_law 328 = .ok (.if_icmp .eq 1151, 3) := by decide +kernel
theorem dL_law_331 : decode cL_law 331 = .ok (.iconst 0, 1) := by decide +kernel
theorem dL_law_332 : decode cL_law 332 = .ok (.ireturn, 1) := by decide +kernel
theorem dL_law_333 : decode cL_law 333 = .ok (.aload_n 1, 1) := by decide +kernel
theorem dL_law_334 : decode cL_law 334 = .ok (.aload_n 0, 1) := by decide +kernel
theorem dL_law_335 : decode cL_law 335 = .ok (.iload_n 3, 1) := by decide +kernel
theorem dL_law_336 : decode cL_law 336 = .ok (.iconst 1, 1) := by decide +kernel
theorem dL_law_337 : decode cL_law 337 = .ok (.iadd, 1) := by decide +kernel
theorem dL_law_338 : decode cL_law 338 = .ok (.iaload, 1) := by decide +kernel
theorem dL_law_339 : decode cL_law 339 = .ok (.invokevirtual 27, 3) := by decide +kernel
theorem dL_law_342 : decode cL_law 342 = .ok (.aload_n 2, 1) := by decide +kernel
theorem dL_law_343 : decode cL_law 343 = .ok (.aload_n 0, 1) := by decide +kernel
theorem dL_law_344 : decode cL_law 344 = .ok (.iload_n 3, 1) := by decide +kernel
theorem dL_law_345 : decode cL_law 345 = .ok (.iconst 1, 1) := by decide +kernel
theorem dL_law_346 : decode cL_law 346 = .ok (.iadd, 1) := by decide +kernel
theorem dL_law_347 : decode cL_law 347 = .ok (.iaload, 1) := by decide +kernel
theorem dL_law_348 : decode cL_law 348 = .ok (.invokevirtual 31, 3) := by decide +kernel
theorem dL_law_351 : decode cL_law 351 = .ok (.if_icmp .eq 1128, 3) := by decide +kernel
theorem dL_law_354 : decode cL_law 354 = .ok (.iconst 0, 1) := by decide +kernel
theorem dL_law_355 : decode cL_law 355 = .ok (.ireturn, 1) := by decide +kernel
theorem dL_law_356 : decode cL_law 356 = .ok (.aload_n 1, 1) := by decide +kernel
theorem dL_law_357 : decode cL_law 357 = .ok (.aload_n 0, 1) := by decide +kernel
theorem dL_law_358 : decode cL_law 358 = .ok (.iload_n 3, 1) := by decide +kernel
theorem dL_law_359 : decode cL_law 359 = .ok (.iconst 1, 1) := by decide +kernel
theorem dL_law_360 : decode cL_law 360 = .ok (.iadd, 1) := by decide +kernel
theorem dL_law_361 : decode cL_law 361 = .ok (.iaload, 1) := by decide +kernel
theorem dL_law_362 : decode cL_law 362 = .ok (.aload_n 0, 1) := by decide +kernel
theorem dL_law_363 : decode cL_law 363 = .ok (.iload_n 3, 1) := by decide +kernel
theorem dL_law_364 : decode cL_law 364 = .ok (.iconst 2, 1) := by decide +kernel
theorem dL_law_365 : decode cL_law 365 = .ok (.iadd, 1) := by decide +kernel
theorem dL_law_366 : decode cL_law 366 = .ok (.iaload, 1) := by decide +kernel
theorem dL_law_367 : decode cL_law 367 = .ok (.aload_n 0, 1) := by decide +kernel
theorem dL_law_368 : decode cL_law 368 = .ok (.iload_n 3, 1) := by decide +kernel
theorem dL_law_369 : decode cL_law 369 = .ok (.iconst 3, 1) := by decide +kernel
theorem dL_law_370 : decode cL_law 370 = .ok (.iadd, 1) := by decide +kernel
theorem dL_law_371 : decode cL_law 371 = .ok (.iaload, 1) := by decide +kernel
theorem dL_law_372 : decode cL_law 372 = .ok (.aload_n 0, 1) := by decide +kernel
theorem dL_law_373 : decode cL_law 373 = .ok (.iload_n 3, 1) := by decide +kernel
theorem dL_law_374 : decode cL_law 374 = .ok (.iconst 4, 1) := by decide +kernel
theorem dL_law_375 : decode cL_law 375 = .ok (.iadd, 1) := by decide +kernel
theorem dL_law_376 : decode cL_law 376 = .ok (.iaload, 1) := by decide +kernel
theorem dL_law_377 : decode cL_law 377 = .ok (.aload_n 0, 1) := by decide +kernel
theorem dL_law_378 : decode cL_law 378 = .ok (.iload_n 3, 1) := by decide +kernel
theorem dL_law_379 : decode cL_law 379 = .ok (.iconst 5, 1) := by decide +kernel
theorem dL_law_380 : decode cL_law 380 = .ok (.iadd, 1) := by decide +kernel
theorem dL_law_381 : decode cL_law 381 = .ok (.iaload, 1) := by decide +kernel
theorem dL_law_382 : decode cL_law 382 = .ok (.invokevirtual 32, 3) := by decide +kernel
theorem dL_law_385 : decode cL_law 385 = .ok (.aload_n 2, 1) := by decide +kernel
theorem dL_law_386 : decode cL_law 386 = .ok (.aload_n 0, 1) := by decide +kernel
theorem dL_law_387 : decode cL_law 387 = .ok (.iload_n 3, 1) := by decide +kernel
theorem dL_law_388 : decode cL_law 388 = .ok (.iconst 1, 1) := by decide +kernel
theorem dL_law_389 : decode cL_law 389 = .ok (.iadd, 1) := by decide +kernel
theorem dL_law_390 : decode cL_law 390 = .ok (.iaload, 1) := by decide +kernel
theorem dL_law_391 : decode cL_law 391 = .ok (.aload_n 0, 1) := by decide +kernel
theorem dL_law_392 : decode cL_law 392 = .ok (.iload_n 3, 1) := by decide +kernel
theorem dL_law_393 : decode cL_law 393 = .ok (.iconst 2, 1) := by decide +kernel
theorem dL_law_394 : decode cL_law 394 = .ok (.iadd, 1) := by decide +kernel
theorem dL_law_395 : decode cL_law 395 = .ok (.iaload, 1) := by decide +kernel
theorem dL_law_396 : decode cL_law 396 = .ok (.aload_n 0, 1) := by decide +kernel
theorem dL_law_397 : decode cL_law 397 = .ok (.iload_n 3, 1) := by decide +kernel
theorem dL_law_398 : decode cL_law 398 = .ok (.iconst 3, 1) := by decide +kernel
theorem dL_law_399 : decode cL_law 399 = .ok (.iadd, 1) := by decide +kernel
theorem dL_law_400 : decode cL_law 400 = .ok (.iaload, 1) := by decide +kernel
theorem dL_law_401 : decode cL_law 401 = .ok (.aload_n 0, 1) := by decide +kernel
theorem dL_law_402 : decode cL_law 402 = .ok (.iload_n 3, 1) := by decide +kernel
theorem dL_law_403 : decode cL_law 403 = .ok (.iconst 4, 1) := by decide +kernel
theorem dL_law_404 : decode cL_law 404 = .ok (.iadd, 1) := by decide +kernel
theorem dL_law_405 : decode cL_law 405 = .ok (.iaload, 1) := by decide +kernel
theorem dL_law_406 : decode cL_law 406 = .ok (.aload_n 0, 1) := by decide +kernel
theorem dL_law_407 : decode cL_law 407 = .ok (.iload_n 3, 1) := by decide +kernel
theorem dL_law_408 : decode cL_law 408 = .ok (.iconst 5, 1) := by decide +kernel
theorem dL_law_409 : decode cL_law 409 = .ok (.iadd, 1) := by decide +kernel
theorem dL_law_410 : decode cL_law 410 = .ok (.iaload, 1) := by decide +kernel
theorem dL_law_411 : decode cL_law 411 = .ok (.invokevirtual 36, 3) := by decide +kernel
theorem dL_law_414 : decode cL_law 414 = .ok (.if_icmp .eq 1065, 3) := by decide +kernel
theorem dL_law_417 : decode cL_law 417 = .ok (.iconst 0, 1) := by decide +kernel
theorem dL_law_418 : decode cL_law 418 = .ok (.ireturn, 1) := by decide +kernel
theorem dL_law_419 : decode cL_law 419 = .ok (.aload_n 1, 1) := by decide +kernel
theorem dL_law_420 : decode cL_law 420 = .ok (.aload_n 0, 1) := by decide +kernel
theorem dL_law_421 : decode cL_law 421 = .ok (.iload_n 3, 1) := by decide +kernel
theorem dL_law_422 : decode cL_law 422 = .ok (.iconst 1, 1) := by decide +kernel
theorem dL_law_423 : decode cL_law 423 = .ok (.iadd, 1) := by decide +kernel
theorem dL_law_424 : decode cL_law 424 = .ok (.iaload, 1) := by decide +kernel
theorem dL_law_425 : decode cL_law 425 = .ok (.invokevirtual 37, 3) := by decide +kernel
theorem dL_law_428 : decode cL_law 428 = .ok (.aload_n 2, 1) := by decide +kernel
theorem dL_law_429 : decode cL_law 429 = .ok (.aload_n 0, 1) := by decide +kernel
theorem dL_law_430 : decode cL_law 430 = .ok (.iload_n 3, 1) := by decide +kernel
theorem dL_law_431 : decode cL_law 431 = .ok (.iconst 1, 1) := by decide +kernel
theorem dL_law_432 : decode cL_law 432 = .ok (.iadd, 1) := by decide +kernel
theorem dL_law_433 : decode cL_law 433 = .ok (.iaload, 1) := by decide +kernel
theorem dL_law_434 : decode cL_law 434 = .ok (.invokevirtual 40, 3) := by decide +kernel
theorem dL_law_437 : decode cL_law 437 = .ok (.if_icmp .eq 1042, 3) := by decide +kernel
theorem dL_law_440 : decode cL_law 440 = .ok (.iconst 0, 1) := by decide +kernel
theorem dL_law_441 : decode cL_law 441 = .ok (.ireturn, 1) := by decide +kernel
theorem dL_law_442 : decode cL_law 442 = .ok (.aload_n 1, 1) := by decide +kernel
theorem dL_law_443 : decode cL_law 443 = .ok (.aload_n 0, 1) := by decide +kernel
theorem dL_law_444 : decode cL_law 444 = .ok (.iload_n 3, 1) := by decide +kernel
theorem dL_law_445 : decode cL_law 445 = .ok (.iconst 1, 1) := by decide +kernel
theorem dL_law_446 : decode cL_law 446 = .ok (.iadd, 1) := by decide +kernel
theorem dL_law_447 : decode cL_law 447 = .ok (.iaload, 1) := by decide +kernel
theorem dL_law_448 : decode cL_law 448 = .ok (.aload_n 0, 1) := by decide +kernel
theorem dL_law_449 : decode cL_law 449 = .ok (.iload_n 3, 1) := by decide +kernel
theorem dL_law_450 : decode cL_law 450 = .ok (.iconst 2, 1) := by decide +kernel
theorem dL_law_451 : decode cL_law 451 = .ok (.iadd, 1) := by decide +kernel
theorem dL_law_452 : decode cL_law 452 = .ok (.iaload, 1) := by decide +kernel
theorem dL_law_453 : decode cL_law 453 = .ok (.invokevirtual 41, 3) := by decide +kernel
theorem dL_law_456 : decode cL_law 456 = .ok (.aload_n 2, 1) := by decide +kernel
theorem dL_law_457 : decode cL_law 457 = .ok (.aload_n 0, 1) := by decide +kernel
theorem dL_law_458 : decode cL_law 458 = .ok (.iload_n 3, 1) := by decide +kernel
theorem dL_law_459 : decode cL_law 459 = .ok (.iconst 1, 1) := by decide +kernel
theorem dL_law_460 : decode cL_law 460 = .ok (.iadd, 1) := by decide +kernel
theorem dL_law_461 : decode cL_law 461 = .ok (.iaload, 1) := by decide +kernel
theorem dL_law_462 : decode cL_law 462 = .ok (.aload_n 0, 1) := by decide +kernel
theorem dL_law_463 : decode cL_law 463 = .ok (.iload_n 3, 1) := by decide +kernel
theorem dL_law_464 : decode cL_law 464 = .ok (.iconst 2, 1) := by decide +kernel
theorem dL_law_465 : decode cL_law 465 = .ok (.iadd, 1) := by decide +kernel
theorem dL_law_466 : decode cL_law 466 = .ok (.iaload, 1) := by decide +kernel
theorem dL_law_467 : decode cL_law 467 = .ok (.invokevirtual 44, 3) := by decide +kernel
theorem dL_law_470 : decode cL_law 470 = .ok (.if_icmp .eq 1009, 3) := by decide +kernel
theorem dL_law_473 : decode cL_law 473 = .ok (.iconst 0, 1) := by decide +kernel
theorem dL_law_474 : decode cL_law 474 = .ok (.ireturn, 1) := by decide +kernel
theorem dL_law_475 : decode cL_law 475 = .ok (.aload_n 1, 1) := by decide +kernel
theorem dL_law_476 : decode cL_law 476 = .ok (.aload_n 0, 1) := by decide +kernel
theorem dL_law_477 : decode cL_law 477 = .ok (.iload_n 3, 1) := by decide +kernel
theorem dL_law_478 : decode cL_law 478 = .ok (.iconst 1, 1) := by decide +kernel
theorem dL_law_479 : decode cL_law 479 = .ok (.iadd, 1) := by decide +kernel
theorem dL_law_480 : decode cL_law 480 = .ok (.iaload, 1) := by decide +kernel
theorem dL_law_481 : decode cL_law 481 = .ok (.aload_n 0, 1) := by decide +kernel
theorem dL_law_482 : decode cL_law 482 = .ok (.iload_n 3, 1) := by decide +kernel
theorem dL_law_483 : decode cL_law 483 = .ok (.iconst 2, 1) := by decide +kernel
theorem dL_law_484 : decode cL_law 484 = .ok (.iadd, 1) := by decide +kernel
theorem dL_law_485 : decode cL_law 485 = .ok (.iaload, 1) := by decide +kernel
theorem dL_law_486 : decode cL_law 486 = .ok (.aload_n 0, 1) := by decide +kernel
theorem dL_law_487 : decode cL_law 487 = .ok (.iload_n 3, 1) := by decide +kernel
theorem dL_law_488 : decode cL_law 488 = .ok (.iconst 3, 1) := by decide +kernel
theorem dL_law_489 : decode cL_law 489 = .ok (.iadd, 1) := by decide +kernel
theorem dL_law_490 : decode cL_law 490 = .ok (.iaload, 1) := by decide +kernel
theorem dL_law_491 : decode cL_law 491 = .ok (.invokevirtual 45, 3) := by decide +kernel
theorem dL_law_494 : decode cL_law 494 = .ok (.aload_n 2, 1) := by decide +kernel
theorem dL_law_495 : decode cL_law 495 = .ok (.aload_n 0, 1) := by decide +kernel
theorem dL_law_496 : decode cL_law 496 = .ok (.iload_n 3, 1) := by decide +kernel
theorem dL_law_497 : decode cL_law 497 = .ok (.iconst 1, 1) := by decide +kernel
theorem dL_law_498 : decode cL_law 498 = .ok (.iadd, 1) := by decide +kernel
theorem dL_law_499 : decode cL_law 499 = .ok (.iaload, 1) := by decide +kernel
theorem dL_law_500 : decode cL_law 500 = .ok (.aload_n 0, 1) := by decide +kernel
theorem dL_law_501 : decode cL_law 501 = .ok (.iload_n 3, 1) := by decide +kernel
theorem dL_law_502 : decode cL_law 502 = .ok (.iconst 2, 1) := by decide +kernel
theorem dL_law_503 : decode cL_law 503 = .ok (.iadd, 1) := by decide +kernel
theorem dL_law_504 : decode cL_law 504 = .ok (.iaload, 1) := by decide +kernel
theorem dL_law_505 : decode cL_law 505 = .ok (.aload_n 0, 1) := by decide +kernel
theorem dL_law_506 : decode cL_law 506 = .ok (.iload_n 3, 1) := by decide +kernel
theorem dL_law_507 : decode cL_law 507 = .ok (.iconst 3, 1) := by decide +kernel
theorem dL_law_508 : decode cL_law 508 = .ok (.iadd, 1) := by decide +kernel
theorem dL_law_509 : decode cL_law 509 = .ok (.iaload, 1) := by decide +kernel
theorem dL_law_510 : decode cL_law 510 = .ok (.invokevirtual 48, 3) := by decide +kernel
theorem dL_law_513 : decode cL_law 513 = .ok (.if_icmp .eq 966, 3) := by decide +kernel
theorem dL_law_516 : decode cL_law 516 = .ok (.iconst 0, 1) := by decide +kernel
theorem dL_law_517 : decode cL_law 517 = .ok (.ireturn, 1) := by decide +kernel
theorem dL_law_518 : decode cL_law 518 = .ok (.aload_n 1, 1) := by decide +kernel
theorem dL_law_519 : decode cL_law 519 = .ok (.aload_n 0, 1) := by decide +kernel
theorem dL_law_520 : decode cL_law 520 = .ok (.iload_n 3, 1) := by decide +kernel
theorem dL_law_521 : decode cL_law 521 = .ok (.iconst 1, 1) := by decide +kernel
theorem dL_law_522 : decode cL_law 522 = .ok (.iadd, 1) := by decide +kernel
theorem dL_law_523 : decode cL_law 523 = .ok (.iaload, 1) := by decide +kernel
theorem dL_law_524 : decode cL_law 524 = .ok (.invokevirtual 49, 3) := by decide +kernel
theorem dL_law_527 : decode cL_law 527 = .ok (.aload_n 2, 1) := by decide +kernel
theorem dL_law_528 : decode cL_law 528 = .ok (.aload_n 0, 1) := by decide +kernel
theorem dL_law_529 : decode cL_law 529 = .ok (.iload_n 3, 1) := by decide +kernel
theorem dL_law_530 : decode cL_law 530 = .ok (.iconst 1, 1) := by decide +kernel
theorem dL_law_531 : decode cL_law 531 = .ok (.iadd, 1) := by decide +kernel
theorem dL_law_532 : decode cL_law 532 = .ok (.iaload, 1) := by decide +kernel
theorem dL_law_533 : decode cL_law 533 = .ok (.invokevirtual 52, 3) := by decide +kernel
theorem dL_law_536 : decode cL_law 536 = .ok (.if_icmp .eq 943, 3) := by decide +kernel
theorem dL_law_539 : decode cL_law 539 = .ok (.iconst 0, 1) := by decide +kernel
theorem dL_law_540 : decode cL_law 540 = .ok (.ireturn, 1) := by decide +kernel
theorem dL_law_541 : decode cL_law 541 = .ok (.aload_n 1, 1) := by decide +kernel
theorem dL_law_542 : decode cL_law 542 = .ok (.aload_n 0, 1) := by decide +kernel
theorem dL_law_543 : decode cL_law 543 = .ok (.iload_n 3, 1) := by decide +kernel
theorem dL_law_544 : decode cL_law 544 = .ok (.iconst 1, 1) := by decide +kernel
theorem dL_law_545 : decode cL_law 545 = .ok (.iadd, 1) := by decide +kernel
theorem dL_law_546 : decode cL_law 546 = .ok (.iaload, 1) := by decide +kernel
theorem dL_law_547 : decode cL_law 547 = .ok (.invokevirtual 53, 3) := by decide +kernel
theorem dL_law_550 : decode cL_law 550 = .ok (.aload_n 2, 1) := by decide +kernel
theorem dL_law_551 : decode cL_law 551 = .ok (.aload_n 0, 1) := by decide +kernel
theorem dL_law_552 : decode cL_law 552 = .ok (.iload_n 3, 1) := by decide +kernel
theorem dL_law_553 : decode cL_law 553 = .ok (.iconst 1, 1) := by decide +kernel
theorem dL_law_554 : decode cL_law 554 = .ok (.iadd, 1) := by decide +kernel
theorem dL_law_555 : decode cL_law 555 = .ok (.iaload, 1) := by decide +kernel
theorem dL_law_556 : decode cL_law 556 = .ok (.invokevirtual 56, 3) := by decide +kernel
theorem dL_law_559 : decode cL_law 559 = .ok (.if_icmp .eq 920, 3) := by decide +kernel
theorem dL_law_562 : decode cL_law 562 = .ok (.iconst 0, 1) := by decide +kernel
theorem dL_law_563 : decode cL_law 563 = .ok (.ireturn, 1) := by decide +kernel
theorem dL_law_564 : decode cL_law 564 = .ok (.aload_n 1, 1) := by decide +kernel
theorem dL_law_565 : decode cL_law 565 = .ok (.aload_n 0, 1) := by decide +kernel
theorem dL_law_566 : decode cL_law 566 = .ok (.iload_n 3, 1) := by decide +kernel
theorem dL_law_567 : decode cL_law 567 = .ok (.iconst 1, 1) := by decide +kernel
theorem dL_law_568 : decode cL_law 568 = .ok (.iadd, 1) := by decide +kernel
theorem dL_law_569 : decode cL_law 569 = .ok (.iaload, 1) := by decide +kernel
theorem dL_law_570 : decode cL_law 570 = .ok (.aload_n 0, 1) := by decide +kernel
theorem dL_law_571 : decode cL_law 571 = .ok (.iload_n 3, 1) := by decide +kernel
theorem dL_law_572 : decode cL_law 572 = .ok (.iconst 2, 1) := by decide +kernel
theorem dL_law_573 : decode cL_law 573 = .ok (.iadd, 1) := by decide +kernel
theorem dL_law_574 : decode cL_law 574 = .ok (.iaload, 1) := by decide +kernel
theorem dL_law_575 : decode cL_law 575 = .ok (.invokevirtual 57, 3) := by decide +kernel
theorem dL_law_578 : decode cL_law 578 = .ok (.aload_n 2, 1) := by decide +kernel
theorem dL_law_579 : decode cL_law 579 = .ok (.aload_n 0, 1) := by decide +kernel
theorem dL_law_580 : decode cL_law 580 = .ok (.iload_n 3, 1) := by decide +kernel
theorem dL_law_581 : decode cL_law 581 = .ok (.iconst 1, 1) := by decide +kernel
theorem dL_law_582 : decode cL_law 582 = .ok (.iadd, 1) := by decide +kernel
theorem dL_law_583 : decode cL_law 583 = .ok (.iaload, 1) := by decide +kernel
theorem dL_law_584 : decode cL_law 584 = .ok (.aload_n 0, 1) := by decide +kernel
theorem dL_law_585 : decode cL_law 585 = .ok (.iload_n 3, 1) := by decide +kernel
theorem dL_law_586 : decode cL_law 586 = .ok (.iconst 2, 1) := by decide +kernel
theorem dL_law_587 : decode cL_law 587 = .ok (.iadd, 1) := by decide +kernel
theorem dL_law_588 : decode cL_law 588 = .ok (.iaload, 1) := by decide +kernel
theorem dL_law_589 : decode cL_law 589 = .ok (.invokevirtual 60, 3) := by decide +kernel
theorem dL_law_592 : decode cL_law 592 = .ok (.if_icmp .eq 887, 3) := by decide +kernel
theorem dL_law_595 : decode cL_law 595 = .ok (.iconst 0, 1) := by decide +kernel
theorem dL_law_596 : decode cL_law 596 = .ok (.ireturn, 1) := by decide +kernel
theorem dL_law_597 : decode cL_law 597 = .ok (.aload_n 1, 1) := by decide +kernel
theorem dL_law_598 : decode cL_law 598 = .ok (.aload_n 0, 1) := by decide +kernel
theorem dL_law_599 : decode cL_law 599 = .ok (.iload_n 3, 1) := by decide +kernel
theorem dL_law_600 : decode cL_law 600 = .ok (.iconst 1, 1) := by decide +kernel
theorem dL_law_601 : decode cL_law 601 = .ok (.iadd, 1) := by decide +kernel
theorem dL_law_602 : decode cL_law 602 = .ok (.iaload, 1) := by decide +kernel
theorem dL_law_603 : decode cL_law 603 = .ok (.aload_n 0, 1) := by decide +kernel
theorem dL_law_604 : decode cL_law 604 = .ok (.iload_n 3, 1) := by decide +kernel
theorem dL_law_605 : decode cL_law 605 = .ok (.iconst 2, 1) := by decide +kernel
theorem dL_law_606 : decode cL_law 606 = .ok (.iadd, 1) := by decide +kernel
theorem dL_law_607 : decode cL_law 607 = .ok (.iaload, 1) := by decide +kernel
theorem dL_law_608 : decode cL_law 608 = .ok (.invokevirtual 61, 3) := by decide +kernel
theorem dL_law_611 : decode cL_law 611 = .ok (.aload_n 2, 1) := by decide +kernel
theorem dL_law_612 : decode cL_law 612 = .ok (.aload_n 0, 1) := by decide +kernel
theorem dL_law_613 : decode cL_law 613 = .ok (.iload_n 3, 1) := by decide +kernel
theorem dL_law_614 : decode cL_law 614 = .ok (.iconst 1, 1) := by decide +kernel
theorem dL_law_615 : decode cL_law 615 = .ok (.iadd, 1) := by decide +kernel
theorem dL_law_616 : decode cL_law 616 = .ok (.iaload, 1) := by decide +kernel
theorem dL_law_617 : decode cL_law 617 = .ok (.aload_n 0, 1) := by decide +kernel
theorem dL_law_618 : decode cL_law 618 = .ok (.iload_n 3, 1) := by decide +kernel
theorem dL_law_619 : decode cL_law 619 = .ok (.iconst 2, 1) := by decide +kernel
theorem dL_law_620 : decode cL_law 620 = .ok (.iadd, 1) := by decide +kernel
theorem dL_law_621 : decode cL_law 621 = .ok (.iaload, 1) := by decide +kernel
theorem dL_law_622 : decode cL_law 622 = .ok (.invokevirtual 64, 3) := by decide +kernel
theorem dL_law_625 : decode cL_law 625 = .ok (.if_icmp .eq 854, 3) := by decide +kernel
theorem dL_law_628 : decode cL_law 628 = .ok (.iconst 0, 1) := by decide +kernel
theorem dL_law_629 : decode cL_law 629 = .ok (.ireturn, 1) := by decide +kernel
theorem dL_law_630 : decode cL_law 630 = .ok (.aload_n 1, 1) := by decide +kernel
theorem dL_law_631 : decode cL_law 631 = .ok (.aload_n 0, 1) := by decide +kernel
theorem dL_law_632 : decode cL_law 632 = .ok (.iload_n 3, 1) := by decide +kernel
theorem dL_law_633 : decode cL_law 633 = .ok (.iconst 1, 1) := by decide +kernel
theorem dL_law_634 : decode cL_law 634 = .ok (.iadd, 1) := by decide +kernel
theorem dL_law_635 : decode cL_law 635 = .ok (.iaload, 1) := by decide +kernel
theorem dL_law_636 : decode cL_law 636 = .ok (.invokevirtual 65, 3) := by decide +kernel
theorem dL_law_639 : decode cL_law 639 = .ok (.aload_n 2, 1) := by decide +kernel
theorem dL_law_640 : decode cL_law 640 = .ok (.aload_n 0, 1) := by decide +kernel
theorem dL_law_641 : decode cL_law 641 = .ok (.iload_n 3, 1) := by decide +kernel
theorem dL_law_642 : decode cL_law 642 = .ok (.iconst 1, 1) := by decide +kernel
theorem dL_law_643 : decode cL_law 643 = .ok (.iadd, 1) := by decide +kernel
theorem dL_law_644 : decode cL_law 644 = .ok (.iaload, 1) := by decide +kernel
theorem dL_law_645 : decode cL_law 645 = .ok (.invokevirtual 68, 3) := by decide +kernel
theorem dL_law_648 : decode cL_law 648 = .ok (.if_icmp .eq 831, 3) := by decide +kernel
theorem dL_law_651 : decode cL_law 651 = .ok (.iconst 0, 1) := by decide +kernel
theorem dL_law_652 : decode cL_law 652 = .ok (.ireturn, 1) := by decide +kernel
theorem dL_law_653 : decode cL_law 653 = .ok (.aload_n 1, 1) := by decide +kernel
theorem dL_law_654 : decode cL_law 654 = .ok (.aload_n 0, 1) := by decide +kernel
theorem dL_law_655 : decode cL_law 655 = .ok (.iload_n 3, 1) := by decide +kernel
theorem dL_law_656 : decode cL_law 656 = .ok (.iconst 1, 1) := by decide +kernel
theorem dL_law_657 : decode cL_law 657 = .ok (.iadd, 1) := by decide +kernel
theorem dL_law_658 : decode cL_law 658 = .ok (.iaload, 1) := by decide +kernel
theorem dL_law_659 : decode cL_law 659 = .ok (.aload_n 0, 1) := by decide +kernel
theorem dL_law_660 : decode cL_law 660 = .ok (.iload_n 3, 1) := by decide +kernel
theorem dL_law_661 : decode cL_law 661 = .ok (.iconst 2, 1) := by decide +kernel
theorem dL_law_662 : decode cL_law 662 = .ok (.iadd, 1) := by decide +kernel
theorem dL_law_663 : decode cL_law 663 = .ok (.iaload, 1) := by decide +kernel
theorem dL_law_664 : decode cL_law 664 = .ok (.invokevirtual 69, 3) := by decide +kernel
theorem dL_law_667 : decode cL_law 667 = .ok (.aload_n 2, 1) := by decide +kernel
theorem dL_law_668 : decode cL_law 668 = .ok (.aload_n 0, 1) := by decide +kernel
theorem dL_law_669 : decode cL_law 669 = .ok (.iload_n 3, 1) := by decide +kernel
theorem dL_law_670 : decode cL_law 670 = .ok (.iconst 1, 1) := by decide +kernel
theorem dL_law_671 : decode cL_law 671 = .ok (.iadd, 1) := by decide +kernel
theorem dL_law_672 : decode cL_law 672 = .ok (.iaload, 1) := by decide +kernel
theorem dL_law_673 : decode cL_law 673 = .ok (.aload_n 0, 1) := by decide +kernel
theorem dL_law_674 : decode cL_law 674 = .ok (.iload_n 3, 1) := by decide +kernel
theorem dL_law_675 : decode cL_law 675 = .ok (.iconst 2, 1) := by decide +kernel
theorem dL_law_676 : decode cL_law 676 = .ok (.iadd, 1) := by decide +kernel
theorem dL_law_677 : decode cL_law 677 = .ok (.iaload, 1) := by decide +kernel
theorem dL_law_678 : decode cL_law 678 = .ok (.invokevirtual 72, 3) := by decide +kernel
theorem dL_law_681 : decode cL_law 681 = .ok (.if_icmp .eq 798, 3) := by decide +kernel
theorem dL_law_684 : decode cL_law 684 = .ok (.iconst 0, 1) := by decide +kernel
theorem dL_law_685 : decode cL_law 685 = .ok (.ireturn, 1) := by decide +kernel
theorem dL_law_686 : decode cL_law 686 = .ok (.aload_n 1, 1) := by decide +kernel
theorem dL_law_687 : decode cL_law 687 = .ok (.invokevirtual 73, 3) := by decide +kernel
theorem dL_law_690 : decode cL_law 690 = .ok (.aload_n 2, 1) := by decide +kernel
theorem dL_law_691 : decode cL_law 691 = .ok (.invokevirtual 77, 3) := by decide +kernel
theorem dL_law_694 : decode cL_law 694 = .ok (.if_icmp .eq 785, 3) := by decide +kernel
theorem dL_law_697 : decode cL_law 697 = .ok (.iconst 0, 1) := by decide +kernel
theorem dL_law_698 : decode cL_law 698 = .ok (.ireturn, 1) := by decide +kernel
theorem dL_law_699 : decode cL_law 699 = .ok (.aload_n 1, 1) := by decide +kernel
theorem dL_law_700 : decode cL_law 700 = .ok (.aload_n 0, 1) := by decide +kernel
theorem dL_law_701 : decode cL_law 701 = .ok (.iload_n 3, 1) := by decide +kernel
theorem dL_law_702 : decode cL_law 702 = .ok (.iconst 1, 1) := by decide +kernel
theorem dL_law_703 : decode cL_law 703 = .ok (.iadd, 1) := by decide +kernel
theorem dL_law_704 : decode cL_law 704 = .ok (.iaload, 1) := by decide +kernel
theorem dL_law_705 : decode cL_law 705 = .ok (.invokevirtual 78, 3) := by decide +kernel
theorem dL_law_708 : decode cL_law 708 = .ok (.aload_n 2, 1) := by decide +kernel
theorem dL_law_709 : decode cL_law 709 = .ok (.aload_n 0, 1) := by decide +kernel
theorem dL_law_710 : decode cL_law 710 = .ok (.iload_n 3, 1) := by decide +kernel
theorem dL_law_711 : decode cL_law 711 = .ok (.iconst 1, 1) := by decide +kernel
theorem dL_law_712 : decode cL_law 712 = .ok (.iadd, 1) := by decide +kernel
theorem dL_law_713 : decode cL_law 713 = .ok (.iaload, 1) := by decide +kernel
theorem dL_law_714 : decode cL_law 714 = .ok (.invokevirtual 81, 3) := by decide +kernel
theorem dL_law_717 : decode cL_law 717 = .ok (.if_icmp .eq 762, 3) := by decide +kernel
theorem dL_law_720 : decode cL_law 720 = .ok (.iconst 0, 1) := by decide +kernel
theorem dL_law_721 : decode cL_law 721 = .ok (.ireturn, 1) := by decide +kernel
theorem dL_law_722 : decode cL_law 722 = .ok (.aload_n 1, 1) := by decide +kernel
theorem dL_law_723 : decode cL_law 723 = .ok (.aload_n 0, 1) := by decide +kernel
theorem dL_law_724 : decode cL_law 724 = .ok (.iload_n 3, 1) := by decide +kernel
theorem dL_law_725 : decode cL_law 725 = .ok (.iconst 1, 1) := by decide +kernel
theorem dL_law_726 : decode cL_law 726 = .ok (.iadd, 1) := by decide +kernel
theorem dL_law_727 : decode cL_law 727 = .ok (.iaload, 1) := by decide +kernel
theorem dL_law_728 : decode cL_law 728 = .ok (.invokevirtual 82, 3) := by decide +kernel
theorem dL_law_731 : decode cL_law 731 = .ok (.aload_n 2, 1) := by decide +kernel
theorem dL_law_732 : decode cL_law 732 = .ok (.aload_n 0, 1) := by decide +kernel
theorem dL_law_733 : decode cL_law 733 = .ok (.iload_n 3, 1) := by decide +kernel
theorem dL_law_734 : decode cL_law 734 = .ok (.iconst 1, 1) := by decide +kernel
theorem dL_law_735 : decode cL_law 735 = .ok (.iadd, 1) := by decide +kernel
theorem dL_law_736 : decode cL_law 736 = .ok (.iaload, 1) := by decide +kernel
theorem dL_law_737 : decode cL_law 737 = .ok (.invokevirtual 85, 3) := by decide +kernel
theorem dL_law_740 : decode cL_law 740 = .ok (.if_icmp .eq 739, 3) := by decide +kernel
theorem dL_law_743 : decode cL_law 743 = .ok (.iconst 0, 1) := by decide +kernel
theorem dL_law_744 : decode cL_law 744 = .ok (.ireturn, 1) := by decide +kernel
theorem dL_law_745 : decode cL_law 745 = .ok (.aload_n 1, 1) := by decide +kernel
theorem dL_law_746 : decode cL_law 746 = .ok (.aload_n 0, 1) := by decide +kernel
theorem dL_law_747 : decode cL_law 747 = .ok (.iload_n 3, 1) := by decide +kernel
theorem dL_law_748 : decode cL_law 748 = .ok (.iconst 1, 1) := by decide +kernel
theorem dL_law_749 : decode cL_law 749 = .ok (.iadd, 1) := by decide +kernel
theorem dL_law_750 : decode cL_law 750 = .ok (.iaload, 1) := by decide +kernel
theorem dL_law_751 : decode cL_law 751 = .ok (.invokevirtual 86, 3) := by decide +kernel
theorem dL_law_754 : decode cL_law 754 = .ok (.aload_n 2, 1) := by decide +kernel
theorem dL_law_755 : decode cL_law 755 = .ok (.aload_n 0, 1) := by decide +kernel
theorem dL_law_756 : decode cL_law 756 = .ok (.iload_n 3, 1) := by decide +kernel
theorem dL_law_757 : decode cL_law 757 = .ok (.iconst 1, 1) := by decide +kernel
theorem dL_law_758 : decode cL_law 758 = .ok (.iadd, 1) := by decide +kernel
theorem dL_law_759 : decode cL_law 759 = .ok (.iaload, 1) := by decide +kernel
theorem dL_law_760 : decode cL_law 760 = .ok (.invokevirtual 89, 3) := by decide +kernel
theorem dL_law_763 : decode cL_law 763 = .ok (.if_icmp .eq 716, 3) := by decide +kernel
theorem dL_law_766 : decode cL_law 766 = .ok (.iconst 0, 1) := by decide +kernel
theorem dL_law_767 : decode cL_law 767 = .ok (.ireturn, 1) := by decide +kernel
theorem dL_law_768 : decode cL_law 768 = .ok (.aload_n 1, 1) := by decide +kernel
theorem dL_law_769 : decode cL_law 769 = .ok (.aload_n 0, 1) := by decide +kernel
theorem dL_law_770 : decode cL_law 770 = .ok (.iload_n 3, 1) := by decide +kernel
theorem dL_law_771 : decode cL_law 771 = .ok (.iconst 1, 1) := by decide +kernel
theorem dL_law_772 : decode cL_law 772 = .ok (.iadd, 1) := by decide +kernel
theorem dL_law_773 : decode cL_law 773 = .ok (.iaload, 1) := by decide +kernel
theorem dL_law_774 : decode cL_law 774 = .ok (.invokevirtual 90, 3) := by decide +kernel
theorem dL_law_777 : decode cL_law 777 = .ok (.aload_n 2, 1) := by decide +kernel
theorem dL_law_778 : decode cL_law 778 = .ok (.aload_n 0, 1) := by decide +kernel
theorem dL_law_779 : decode cL_law 779 = .ok (.iload_n 3, 1) := by decide +kernel
theorem dL_law_780 : decode cL_law 780 = .ok (.iconst 1, 1) := by decide +kernel
theorem dL_law_781 : decode cL_law 781 = .ok (.iadd, 1) := by decide +kernel
theorem dL_law_782 : decode cL_law 782 = .ok (.iaload, 1) := by decide +kernel
theorem dL_law_783 : decode cL_law 783 = .ok (.invokevirtual 93, 3) := by decide +kernel
theorem dL_law_786 : decode cL_law 786 = .ok (.if_icmp .eq 693, 3) := by decide +kernel
theorem dL_law_789 : decode cL_law 789 = .ok (.iconst 0, 1) := by decide +kernel
theorem dL_law_790 : decode cL_law 790 = .ok (.ireturn, 1) := by decide +kernel
theorem dL_law_791 : decode cL_law 791 = .ok (.aload_n 1, 1) := by decide +kernel
theorem dL_law_792 : decode cL_law 792 = .ok (.aload_n 0, 1) := by decide +kernel
theorem dL_law_793 : decode cL_law 793 = .ok (.iload_n 3, 1) := by decide +kernel
theorem dL_law_794 : decode cL_law 794 = .ok (.iconst 1, 1) := by decide +kernel
theorem dL_law_795 : decode cL_law 795 = .ok (.iadd, 1) := by decide +kernel
theorem dL_law_796 : decode cL_law 796 = .ok (.iaload, 1) := by decide +kernel
theorem dL_law_797 : decode cL_law 797 = .ok (.invokevirtual 94, 3) := by decide +kernel
theorem dL_law_800 : decode cL_law 800 = .ok (.aload_n 2, 1) := by decide +kernel
theorem dL_law_801 : decode cL_law 801 = .ok (.aload_n 0, 1) := by decide +kernel
theorem dL_law_802 : decode cL_law 802 = .ok (.iload_n 3, 1) := by decide +kernel
theorem dL_law_803 : decode cL_law 803 = .ok (.iconst 1, 1) := by decide +kernel
theorem dL_law_804 : decode cL_law 804 = .ok (.iadd, 1) := by decide +kernel
theorem dL_law_805 : decode cL_law 805 = .ok (.iaload, 1) := by decide +kernel
theorem dL_law_806 : decode cL_law 806 = .ok (.invokevirtual 97, 3) := by decide +kernel
theorem dL_law_809 : decode cL_law 809 = .ok (.if_icmp .eq 670, 3) := by decide +kernel
theorem dL_law_812 : decode cL_law 812 = .ok (.iconst 0, 1) := by decide +kernel
theorem dL_law_813 : decode cL_law 813 = .ok (.ireturn, 1) := by decide +kernel
theorem dL_law_814 : decode cL_law 814 = .ok (.aload_n 1, 1) := by decide +kernel
theorem dL_law_815 : decode cL_law 815 = .ok (.aload_n 0, 1) := by decide +kernel
theorem dL_law_816 : decode cL_law 816 = .ok (.iload_n 3, 1) := by decide +kernel
theorem dL_law_817 : decode cL_law 817 = .ok (.iconst 1, 1) := by decide +kernel
theorem dL_law_818 : decode cL_law 818 = .ok (.iadd, 1) := by decide +kernel
theorem dL_law_819 : decode cL_law 819 = .ok (.iaload, 1) := by decide +kernel
theorem dL_law_820 : decode cL_law 820 = .ok (.invokevirtual 98, 3) := by decide +kernel
theorem dL_law_823 : decode cL_law 823 = .ok (.aload_n 2, 1) := by decide +kernel
theorem dL_law_824 : decode cL_law 824 = .ok (.aload_n 0, 1) := by decide +kernel
theorem dL_law_825 : decode cL_law 825 = .ok (.iload_n 3, 1) := by decide +kernel
theorem dL_law_826 : decode cL_law 826 = .ok (.iconst 1, 1) := by decide +kernel
theorem dL_law_827 : decode cL_law 827 = .ok (.iadd, 1) := by decide +kernel
theorem dL_law_828 : decode cL_law 828 = .ok (.iaload, 1) := by decide +kernel
theorem dL_law_829 : decode cL_law 829 = .ok (.invokevirtual 101, 3) := by decide +kernel
theorem dL_law_832 : decode cL_law 832 = .ok (.if_icmp .eq 647, 3) := by decide +kernel
theorem dL_law_835 : decode cL_law 835 = .ok (.iconst 0, 1) := by decide +kernel
theorem dL_law_836 : decode cL_law 836 = .ok (.ireturn, 1) := by decide +kernel
theorem dL_law_837 : decode cL_law 837 = .ok (.aload_n 1, 1) := by decide +kernel
theorem dL_law_838 : decode cL_law 838 = .ok (.aload_n 0, 1) := by decide +kernel
theorem dL_law_839 : decode cL_law 839 = .ok (.iload_n 3, 1) := by decide +kernel
theorem dL_law_840 : decode cL_law 840 = .ok (.iconst 1, 1) := by decide +kernel
theorem dL_law_841 : decode cL_law 841 = .ok (.iadd, 1) := by decide +kernel
theorem dL_law_842 : decode cL_law 842 = .ok (.iaload, 1) := by decide +kernel
theorem dL_law_843 : decode cL_law 843 = .ok (.aload_n 0, 1) := by decide +kernel
theorem dL_law_844 : decode cL_law 844 = .ok (.iload_n 3, 1) := by decide +kernel
theorem dL_law_845 : decode cL_law 845 = .ok (.iconst 2, 1) := by decide +kernel
theorem dL_law_846 : decode cL_law 846 = .ok (.iadd, 1) := by decide +kernel
theorem dL_law_847 : decode cL_law 847 = .ok (.iaload, 1) := by decide +kernel

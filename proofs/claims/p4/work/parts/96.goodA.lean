abbrev wsLr : List Cond := (wsL_law_r1 ++ (wsL_law_r2 ++ (wsL_law_r3 ++ (wsL_law_r4 ++ (wsL_law_r5 ++ (wsL_law_r6 ++ (wsL_law_r7 ++ (wsL_law_r8 ++ (wsL_law_r9 ++ (wsL_law_r10 ++ (wsL_law_r11 ++ (wsL_law_r12 ++ (wsL_law_r13 ++ (wsL_law_r14 ++ (wsL_law_r15 ++ (wsL_law_r16 ++ (wsL_law_r17 ++ (wsL_law_r18 ++ (wsL_law_r19 ++ (wsL_law_r20 ++ (wsL_law_r21 ++ (wsL_law_r22 ++ (wsL_law_r23 ++ (wsL_law_r24 ++ (wsL_law_r25 ++ (wsL_law_r26 ++ (wsL_law_r27 ++ (wsL_law_r28 ++ (wsL_law_r29 ++ (wsL_law_r30 ++ (wsL_law_r31 ++ (wsL_law_r32 ++ (wsL_law_r33 ++ (wsL_law_r34 ++ (wsL_law_r35 ++ (wsL_law_r36 ++ (wsL_law_r37 ++ (wsL_law_r38 ++ (wsL_law_r39 ++ (wsL_law_r40 ++ wsL_law_r41))))))))))))))))))))))))))))))))))))))))
theorem ciR : ∀ w ∈ wsLr, w ∈ wsL_law := fun _ h => List.mem_append_left _ (List.mem_append_left _ (List.mem_append_left _ (List.mem_append_left _ (List.mem_append_left _ (List.mem_append_left _ (List.mem_append_left _ (List.mem_append_left _ (List.mem_append_left _ (List.mem_append_left _ (List.mem_append_left _ (List.mem_append_left _ (List.mem_append_left _ (h)))))))))))))
theorem ci_1 : ∀ w ∈ wsL_law_r1, w ∈ wsL_law := fun _ h => ciR _ (List.mem_append_left _ h)
theorem ci_2 : ∀ w ∈ wsL_law_r2, w ∈ wsL_law := fun _ h => ciR _ (List.mem_append_right _ (List.mem_append_left _ h))
theorem ci_3 : ∀ w ∈ wsL_law_r3, w ∈ wsL_law := fun _ h => ciR _ (List.mem_append_right _ (List.mem_append_right _ (List.mem_append_left _ h)))
theorem ci_4 : ∀ w ∈ wsL_law_r4, w ∈ wsL_law := fun _ h => ciR _ (List.mem_append_right _ (List.mem_append_right _ (List.mem_append_right _ (List.mem_append_left _ h))))
theorem ci_5 : ∀ w ∈ wsL_law_r5, w ∈ wsL_law := fun _ h => ciR _ (List.mem_append_right _ (List.mem_append_right _ (List.mem_append_right _ (List.mem_append_right _ (List.mem_append_left _ h)))))
theorem ci_6 : ∀ w ∈ wsL_law_r6, w ∈ wsL_law := fun _ h => ciR _ (List.mem_append_right _ (List.mem_append_right _ (List.mem_append_right _ (List.mem_append_right _ (List.mem_append_right _ (List.mem_append_left _ h))))))
theorem ci_7 : ∀ w ∈ wsL_law_r7, w ∈ wsL_law := fun _ h => ciR _ (List.mem_append_right _ (List.mem_append_right _ (List.mem_append_right _ (List.mem_append_right _ (List.mem_append_right _ (List.mem_append_right _ (List.mem_append_left _ h)))))))
theorem ci_8 : ∀ w ∈ wsL_law_r8, w ∈ wsL_law := fun _ h => ciR _ (List.mem_append_right _ (List.mem_append_right _ (List.mem_append_right _ (List.mem_append_right _ (List.mem_append_right _ (List.mem_append_right _ (List.mem_append_right _ (List.mem_append_left _ h))))))))
theorem ci_9 : ∀ w ∈ wsL_law_r9, w ∈ wsL_law := fun _ h => ciR _ (List.mem_append_right _ (List.mem_append_right _ (List.mem_append_right _ (List.mem_append_right _ (List.mem_append_right _ (List.mem_append_right _ (List.mem_append_right _ (List.mem_append_right _ (List.mem_append_left _ h)))))))))
theorem ci_10 : ∀ w ∈ wsL_law_r10, w ∈ wsL_law := fun _ h => ciR _ (List.mem_append_right _ (List.mem_append_right _ (List.mem_append_right _ (List.mem_append_right _ (List.mem_append_right _ (List.mem_append_right _ (List.mem_append_right _ (List.mem_append_right _ (List.mem_append_right _ (List.mem_append_left _ h))))))))))
theorem ci_11 : ∀ w ∈ wsL_law_r11, w ∈ wsL_law := fun _ h => ciR _ (List.mem_append_right _ (List.mem_append_right _ (List.mem_append_right _ (List.mem_append_right _ (List.mem_append_right _ (List.mem_append_right _ (List.mem_append_right _ (List.mem_append_right _ (List.mem_append_right _ (List.mem_append_right _ (List.mem_append_left _ h)))))))))))
theorem ci_12 : ∀ w ∈ wsL_law_r12, w ∈ wsL_law := fun _ h => ciR _ (List.mem_append_right _ (List.mem_append_right _ (List.mem_append_right _ (List.mem_append_right _ (List.mem_append_right _ (List.mem_append_right _ (List.mem_append_right _ (List.mem_append_right _ (List.mem_append_right _ (List.mem_append_right _ (List.mem_append_right _ (List.mem_append_left _ h))))))))))))
theorem ci_13 : ∀ w ∈ wsL_law_r13, w ∈ wsL_law := fun _ h => ciR _ (List.mem_append_right _ (List.mem_append_right _ (List.mem_append_right _ (List.mem_append_right _ (List.mem_append_right _ (List.mem_append_right _ (List.mem_append_right _ (List.mem_append_right _ (List.mem_append_right _ (List.mem_append_right _ (List.mem_append_right _ (List.mem_append_right _ (List.mem_append_left _ h)))))))))))))
theorem ci_14 : ∀ w ∈ wsL_law_r14, w ∈ wsL_law := fun _ h => ciR _ (List.mem_append_right _ (List.mem_append_right _ (List.mem_append_right _ (List.mem_append_right _ (List.mem_append_right _ (List.mem_append_right _ (List.mem_append_right _ (List.mem_append_right _ (List.mem_append_right _ (List.mem_append_right _ (List.mem_append_right _ (List.mem_append_right _ (List.mem_append_right _ (List.mem_append_left _ h))))))))))))))
theorem ci_15 : ∀ w ∈ wsL_law_r15, w ∈ wsL_law := fun _ h => ciR _ (List.mem_append_right _ (List.mem_append_right _ (List.mem_append_right _ (List.mem_append_right _ (List.mem_append_right _ (List.mem_append_right _ (List.mem_append_right _ (List.mem_append_right _ (List.mem_append_right _ (List.mem_append_right _ (List.mem_append_right _ (List.mem_append_right _ (List.mem_append_right _ (List.mem_append_right _ (List.mem_append_left _ h)))))))))))))))
theorem ci_16 : ∀ w ∈ wsL_law_r16, w ∈ wsL_law := fun _ h => ciR _ (List.mem_append_right _ (List.mem_append_right _ (List.mem_append_right _ (List.mem_append_right _ (List.mem_append_right _ (List.mem_append_right _ (List.mem_append_right _ (List.mem_append_right _ (List.mem_append_right _ (List.mem_append_right _ (List.mem_append_right _ (List.mem_append_right _ (List.mem_append_right _ (List.mem_append_right _ (List.mem_append_right _ (List.mem_append_left _ h))))))))))))))))
theorem ci_17 : ∀ w ∈ wsL_law_r17, w ∈ wsL_law := fun _ h => ciR _ (List.mem_append_right _ (List.mem_append_right _ (List.mem_append_right _ (List.mem_append_right _ (List.mem_append_right _ (List.mem_append_right _ (List.mem_append_right _ (List.mem_append_right _ (List.mem_append_right _ (List.mem_append_right _ (List.mem_append_right _ (List.mem_append_right _ (List.mem_append_right _ (List.mem_append_right _ (List.mem_append_right _ (List.mem_append_right _ (List.mem_append_left _ h)))))))))))))))))
theorem ci_18 : ∀ w ∈ wsL_law_r18, w ∈ wsL_law := fun _ h => ciR _ (List.mem_append_right _ (List.mem_append_right _ (List.mem_append_right _ (List.mem_append_right _ (List.mem_append_right _ (List.mem_append_right _ (List.mem_append_right _ (List.mem_append_right _ (List.mem_append_right _ (List.mem_append_right _ (List.mem_append_right _ (List.mem_append_right _ (List.mem_append_right _ (List.mem_append_right _ (List.mem_append_right _ (List.mem_append_right _ (List.mem_append_right _ (List.mem_append_left _ h))))))))))))))))))
theorem ci_19 : ∀ w ∈ wsL_law_r19, w ∈ wsL_law := fun _ h => ciR _ (List.mem_append_right _ (List.mem_append_right _ (List.mem_append_right _ (List.mem_append_right _ (List.mem_append_right _ (List.mem_append_right _ (List.mem_append_right _ (List.mem_append_right _ (List.mem_append_right _ (List.mem_append_right _ (List.mem_append_right _ (List.mem_append_right _ (List.mem_append_right _ (List.mem_append_right _ (List.mem_append_right _ (List.mem_append_right _ (List.mem_append_right _ (List.mem_append_right _ (List.mem_append_left _ h)))))))))))))))))))
theorem ci_20 : ∀ w ∈ wsL_law_r20, w ∈ wsL_law := fun _ h => ciR _ (List.mem_append_right _ (List.mem_append_right _ (List.mem_append_right _ (List.mem_append_right _ (List.mem_append_right _ (List.mem_append_right _ (List.mem_append_right _ (List.mem_append_right _ (List.mem_append_right _ (List.mem_append_right _ (List.mem_append_right _ (List.mem_append_right _ (List.mem_append_right _ (List.mem_append_right _ (List.mem_append_right _ (List.mem_append_right _ (List.mem_append_right _ (List.mem_append_right _ (List.mem_append_right _ (List.mem_append_left _ h))))))))))))))))))))
theorem ci_21 : ∀ w ∈ wsL_law_r21, w ∈ wsL_law := fun _ h => ciR _ (List.mem_append_right _ (List.mem_append_right _ (List.mem_append_right _ (List.mem_append_right _ (List.mem_append_right _ (List.mem_append_right _ (List.mem_append_right _ (List.mem_append_right _ (List.mem_append_right _ (List.mem_append_right _ (List.mem_append_right _ (List.mem_append_right _ (List.mem_append_right _ (List.mem_append_right _ (List.mem_append_right _ (List.mem_append_right _ (List.mem_append_right _ (List.mem_append_right _ (List.mem_append_right _ (List.mem_append_right _ (List.mem_append_left _ h)))))))))))))))))))))
theorem ci_22 : ∀ w ∈ wsL_law_r22, w ∈ wsL_law := fun _ h => ciR _ (List.mem_append_right _ (List.mem_append_right _ (List.mem_append_right _ (List.mem_append_right _ (List.mem_append_right _ (List.mem_append_right _ (List.mem_append_right _ (List.mem_append_right _ (List.mem_append_right _ (List.mem_append_right _ (List.mem_append_right _ (List.mem_append_right _ (List.mem_append_right _ (List.mem_append_right _ (List.mem_append_right _ (List.mem_append_right _ (List.mem_append_right _ (List.mem_append_right _ (List.mem_append_right _ (List.mem_append_right _ (List.mem_append_right _ (List.mem_append_left _ h))))))))))))))))))))))
theorem ci_23 : ∀ w ∈ wsL_law_r23, w ∈ wsL_law := fun _ h => ciR _ (List.mem_append_right _ (List.mem_append_right _ (List.mem_append_right _ (List.mem_append_right _ (List.mem_append_right _ (List.mem_append_right _ (List.mem_append_right _ (List.mem_append_right _ (List.mem_append_right _ (List.mem_append_right _ (List.mem_append_right _ (List.mem_append_right _ (List.mem_append_right _ (List.mem_append_right _ (List.mem_append_right _ (List.mem_append_right _ (List.mem_append_right _ (List.mem_append_right _ (List.mem_append_right _ (List.mem_append_right _ (List.mem_append_right _ (List.mem_append_right _ (List.mem_append_left _ h)))))))))))))))))))))))
theorem ci_24 : ∀ w ∈ wsL_law_r24, w ∈ wsL_law := fun _ h => ciR _ (List.mem_append_right _ (List.mem_append_right _ (List.mem_append_right _ (List.mem_append_right _ (List.mem_append_right _ (List.mem_append_right _ (List.mem_append_right _ (List.mem_append_right _ (List.mem_append_right _ (List.mem_append_right _ (List.mem_append_right _ (List.mem_append_right _ (List.mem_append_right _ (List.mem_append_right _ (List.mem_append_right _ (List.mem_append_right _ (List.mem_append_right _ (List.mem_append_right _ (List.mem_append_right _ (List.mem_append_right _ (List.mem_append_right _ (List.mem_append_right _ (List.mem_append_right _ (List.mem_append_left _ h))))))))))))))))))))))))
theorem ci_25 : ∀ w ∈ wsL_law_r25, w ∈ wsL_law := fun _ h => ciR _ (List.mem_append_right _ (List.mem_append_right _ (List.mem_append_right _ (List.mem_append_right _ (List.mem_append_right _ (List.mem_append_right _ (List.mem_append_right _ (List.mem_append_right _ (List.mem_append_right _ (List.mem_append_right _ (List.mem_append_right _ (List.mem_append_right _ (List.mem_append_right _ (List.mem_append_right _ (List.mem_append_right _ (List.mem_append_right _ (List.mem_append_right _ (List.mem_append_right _ (List.mem_append_right _ (List.mem_append_right _ (List.mem_append_right _ (List.mem_append_right _ (List.mem_append_right _ (List.mem_append_right _ (List.mem_append_left _ h)))))))))))))))))))))))))
theorem ci_26 : ∀ w ∈ wsL_law_r26, w ∈ wsL_law := fun _ h => ciR _ (List.mem_append_right _ (List.mem_append_right _ (List.mem_append_right _ (List.mem_append_right _ (List.mem_append_right _ (List.mem_append_right _ (List.mem_append_right _ (List.mem_append_right _ (List.mem_append_right _ (List.mem_append_right _ (List.mem_append_right _ (List.mem_append_right _ (List.mem_append_right _ (List.mem_append_right _ (List.mem_append_right _ (List.mem_append_right _ (List.mem_append_right _ (List.mem_append_right _ (List.mem_append_right _ (List.mem_append_right _ (List.mem_append_right _ (List.mem_append_right _ (List.mem_append_right _ (List.mem_append_right _ (List.mem_append_right _ (List.mem_append_left _ h))))))))))))))))))))))))))
theorem ci_27 : ∀ w ∈ wsL_law_r27, w ∈ wsL_law := fun _ h => ciR _ (List.mem_append_right _ (List.mem_append_right _ (List.mem_append_right _ (List.mem_append_right _ (List.mem_append_right _ (List.mem_append_right _ (List.mem_append_right _ (List.mem_append_right _ (List.mem_append_right _ (List.mem_append_right _ (List.mem_append_right _ (List.mem_append_right _ (List.mem_append_right _ (List.mem_append_right _ (List.mem_append_right _ (List.mem_append_right _ (List.mem_append_right _ (List.mem_append_right _ (List.mem_append_right _ (List.mem_append_right _ (List.mem_append_right _ (List.mem_append_right _ (List.mem_append_right _ (List.mem_append_right _ (List.mem_append_right _ (List.mem_append_right _ (List.mem_append_left _ h)))))))))))))))))))))))))))
theorem ci_28 : ∀ w ∈ wsL_law_r28, w ∈ wsL_law := fun _ h => ciR _ (List.mem_append_right _ (List.mem_append_right _ (List.mem_append_right _ (List.mem_append_right _ (List.mem_append_right _ (List.mem_append_right _ (List.mem_append_right _ (List.mem_append_right _ (List.mem_append_right _ (List.mem_append_right _ (List.mem_append_right _ (List.mem_append_right _ (List.mem_append_right _ (List.mem_append_right _ (List.mem_append_right _ (List.mem_append_right _ (List.mem_append_right _ (List.mem_append_right _ (List.mem_append_right _ (List.mem_append_right _ (List.mem_append_right _ (List.mem_append_right _ (List.mem_append_right _ (List.mem_append_right _ (List.mem_append_right _ (List.mem_append_right _ (List.mem_append_right _ (List.mem_append_left _ h))))))))))))))))))))))))))))
theorem ci_29 : ∀ w ∈ wsL_law_r29, w ∈ wsL_law := fun _ h => ciR _ (List.mem_append_right _ (List.mem_append_right _ (List.mem_append_right _ (List.mem_append_right _ (List.mem_append_right _ (List.mem_append_right _ (List.mem_append_right _ (List.mem_append_right _ (List.mem_append_right _ (List.mem_append_right _ (List.mem_append_right _ (List.mem_append_right _ (List.mem_append_right _ (List.mem_append_right _ (List.mem_append_right _ (List.mem_append_right _ (List.mem_append_right _ (List.mem_append_right _ (List.mem_append_right _ (List.mem_append_right _ (List.mem_append_right _ (List.mem_append_right _ (List.mem_append_right _ (List.mem_append_right _ (List.mem_append_right _ (List.mem_append_right _ (List.mem_append_right _ (List.mem_append_right _ (List.mem_append_left _ h)))))))))))))))))))))))))))))
theorem ci_30 : ∀ w ∈ wsL_law_r30, w ∈ wsL_law := fun _ h => ciR _ (List.mem_append_right _ (List.mem_append_right _ (List.mem_append_right _ (List.mem_append_right _ (List.mem_append_right _ (List.mem_append_right _ (List.mem_append_right _ (List.mem_append_right _ (List.mem_append_right _ (List.mem_append_right _ (List.mem_append_right _ (List.mem_append_right _ (List.mem_append_right _ (List.mem_append_right _ (List.mem_append_right _ (List.mem_append_right _ (List.mem_append_right _ (List.mem_append_right _ (List.mem_append_right _ (List.mem_append_right _ (List.mem_append_right _ (List.mem_append_right _ (List.mem_append_right _ (List.mem_append_right _ (List.mem_append_right _ (List.mem_append_right _ (List.mem_append_right _ (List.mem_append_right _ (List.mem_append_right _ (List.mem_append_left _ h))))))))))))))))))))))))))))))
theorem ci_31 : ∀ w ∈ wsL_law_r31, w ∈ wsL_law := fun _ h => ciR _ (List.mem_append_right _ (List.mem_append_right _ (List.mem_append_right _ (List.mem_append_right _ (List.mem_append_right _ (List.mem_append_right _ (List.mem_append_right _ (List.mem_append_right _ (List.mem_append_right _ (List.mem_append_right _ (List.mem_append_right _ (List.mem_append_right _ (List.mem_append_right _ (List.mem_append_right _ (List.mem_append_right _ (List.mem_append_right _ (List.mem_append_right _ (List.mem_append_right _ (List.mem_append_right _ (List.mem_append_right _ (List.mem_append_right _ (List.mem_append_right _ (List.mem_append_right _ (List.mem_append_right _ (List.mem_append_right _ (List.mem_append_right _ (List.mem_append_right _ (List.mem_append_right _ (List.mem_append_right _ (List.mem_append_right _ (List.mem_append_left _ h)))))))))))))))))))))))))))))))
theorem ci_32 : ∀ w ∈ wsL_law_r32, w ∈ wsL_law := fun _ h => ciR _ (List.mem_append_right _ (List.mem_append_right _ (List.mem_append_right _ (List.mem_append_right _ (List.mem_append_right _ (List.mem_append_right _ (List.mem_append_right _ (List.mem_append_right _ (List.mem_append_right _ (List.mem_append_right _ (List.mem_append_right _ (List.mem_append_right _ (List.mem_append_right _ (List.mem_append_right _ (List.mem_append_right _ (List.mem_append_right _ (List.mem_append_right _ (List.mem_append_right _ (List.mem_append_right _ (List.mem_append_right _ (List.mem_append_right _ (List.mem_append_right _ (List.mem_append_right _ (List.mem_append_right _ (List.mem_append_right _ (List.mem_append_right _ (List.mem_append_right _ (List.mem_append_right _ (List.mem_append_right _ (List.mem_append_right _ (List.mem_append_right _ (List.mem_append_left _ h))))))))))))))))))))))))))))))))
theorem ci_33 : ∀ w ∈ wsL_law_r33, w ∈ wsL_law := fun _ h => ciR _ (List.mem_append_right _ (List.mem_append_right _ (List.mem_append_right _ (List.mem_append_right _ (List.mem_append_right _ (List.mem_append_right _ (List.mem_append_right _ (List.mem_append_right _ (List.mem_append_right _ (List.mem_append_right _ (List.mem_append_right _ (List.mem_append_right _ (List.mem_append_right _ (List.mem_append_right _ (List.mem_append_right _ (List.mem_append_right _ (List.mem_append_right _ (List.mem_append_right _ (List.mem_append_right _ (List.mem_append_right _ (List.mem_append_right _ (List.mem_append_right _ (List.mem_append_right _ (List.mem_append_right _ (List.mem_append_right _ (List.mem_append_right _ (List.mem_append_right _ (List.mem_append_right _ (List.mem_append_right _ (List.mem_append_right _ (List.mem_append_right _ (List.mem_append_right _ (List.mem_append_left _ h)))))))))))))))))))))))))))))))))
theorem ci_34 : ∀ w ∈ wsL_law_r34, w ∈ wsL_law := fun _ h => ciR _ (List.mem_append_right _ (List.mem_append_right _ (List.mem_append_right _ (List.mem_append_right _ (List.mem_append_right _ (List.mem_append_right _ (List.mem_append_right _ (List.mem_append_right _ (List.mem_append_right _ (List.mem_append_right _ (List.mem_append_right _ (List.mem_append_right _ (List.mem_append_right _ (List.mem_append_right _ (List.mem_append_right _ (List.mem_append_right _ (List.mem_append_right _ (List.mem_append_right _ (List.mem_append_right _ (List.mem_append_right _ (List.mem_append_right _ (List.mem_append_right _ (List.mem_append_right _ (List.mem_append_right _ (List.mem_append_right _ (List.mem_append_right _ (List.mem_append_right _ (List.mem_append_right _ (List.mem_append_right _ (List.mem_append_right _ (List.mem_append_right _ (List.mem_append_right _ (List.mem_append_right _ (List.mem_append_left _ h))))))))))))))))))))))))))))))))))
theorem ci_35 : ∀ w ∈ wsL_law_r35, w ∈ wsL_law := fun _ h => ciR _ (List.mem_append_right _ (List.mem_append_right _ (List.mem_append_right _ (List.mem_append_right _ (List.mem_append_right _ (List.mem_append_right _ (List.mem_append_right _ (List.mem_append_right _ (List.mem_append_right _ (List.mem_append_right _ (List.mem_append_right _ (List.mem_append_right _ (List.mem_append_right _ (List.mem_append_right _ (List.mem_append_right _ (List.mem_append_right _ (List.mem_append_right _ (List.mem_append_right _ (List.mem_append_right _ (List.mem_append_right _ (List.mem_append_right _ (List.mem_append_right _ (List.mem_append_right _ (List.mem_append_right _ (List.mem_append_right _ (List.mem_append_right _ (List.mem_append_right _ (List.mem_append_right _ (List.mem_append_right _ (List.mem_append_right _ (List.mem_append_right _ (List.mem_append_right _ (List.mem_append_right _ (List.mem_append_right _ (List.mem_append_left _ h)))))))))))))))))))))))))))))))))))
theorem ci_36 : ∀ w ∈ wsL_law_r36, w ∈ wsL_law := fun _ h => ciR _ (List.mem_append_right _ (List.mem_append_right _ (List.mem_append_right _ (List.mem_append_right _ (List.mem_append_right _ (List.mem_append_right _ (List.mem_append_right _ (List.mem_append_right _ (List.mem_append_right _ (List.mem_append_right _ (List.mem_append_right _ (List.mem_append_right _ (List.mem_append_right _ (List.mem_append_right _ (List.mem_append_right _ (List.mem_append_right _ (List.mem_append_right _ (List.mem_append_right _ (List.mem_append_right _ (List.mem_append_right _ (List.mem_append_right _ (List.mem_append_right _ (List.mem_append_right _ (List.mem_append_right _ (List.mem_append_right _ (List.mem_append_right _ (List.mem_append_right _ (List.mem_append_right _ (List.mem_append_right _ (List.mem_append_right _ (List.mem_append_right _ (List.mem_append_right _ (List.mem_append_right _ (List.mem_append_right _ (List.mem_append_right _ (List.mem_append_left _ h))))))))))))))))))))))))))))))))))))
theorem ci_37 : ∀ w ∈ wsL_law_r37, w ∈ wsL_law := fun _ h => ciR _ (List.mem_append_right _ (List.mem_append_right _ (List.mem_append_right _ (List.mem_append_right _ (List.mem_append_right _ (List.mem_append_right _ (List.mem_append_right _ (List.mem_append_right _ (List.mem_append_right _ (List.mem_append_right _ (List.mem_append_right _ (List.mem_append_right _ (List.mem_append_right _ (List.mem_append_right _ (List.mem_append_right _ (List.mem_append_right _ (List.mem_append_right _ (List.mem_append_right _ (List.mem_append_right _ (List.mem_append_right _ (List.mem_append_right _ (List.mem_append_right _ (List.mem_append_right _ (List.mem_append_right _ (List.mem_append_right _ (List.mem_append_right _ (List.mem_append_right _ (List.mem_append_right _ (List.mem_append_right _ (List.mem_append_right _ (List.mem_append_right _ (List.mem_append_right _ (List.mem_append_right _ (List.mem_append_right _ (List.mem_append_right _ (List.mem_append_right _ (List.mem_append_left _ h)))))))))))))))))))))))))))))))))))))
theorem ci_38 : ∀ w ∈ wsL_law_r38, w ∈ wsL_law := fun _ h => ciR _ (List.mem_append_right _ (List.mem_append_right _ (List.mem_append_right _ (List.mem_append_right _ (List.mem_append_right _ (List.mem_append_right _ (List.mem_append_right _ (List.mem_append_right _ (List.mem_append_right _ (List.mem_append_right _ (List.mem_append_right _ (List.mem_append_right _ (List.mem_append_right _ (List.mem_append_right _ (List.mem_append_right _ (List.mem_append_right _ (List.mem_append_right _ (List.mem_append_right _ (List.mem_append_right _ (List.mem_append_right _ (List.mem_append_right _ (List.mem_append_right _ (List.mem_append_right _ (List.mem_append_right _ (List.mem_append_right _ (List.mem_append_right _ (List.mem_append_right _ (List.mem_append_right _ (List.mem_append_right _ (List.mem_append_right _ (List.mem_append_right _ (List.mem_append_right _ (List.mem_append_right _ (List.mem_append_right _ (List.mem_append_right _ (List.mem_append_right _ (List.mem_append_right _ (List.mem_append_left _ h))))))))))))))))))))))))))))))))))))))
theorem ci_39 : ∀ w ∈ wsL_law_r39, w ∈ wsL_law := fun _ h => ciR _ (List.mem_append_right _ (List.mem_append_right _ (List.mem_append_right _ (List.mem_append_right _ (List.mem_append_right _ (List.mem_append_right _ (List.mem_append_right _ (List.mem_append_right _ (List.mem_append_right _ (List.mem_append_right _ (List.mem_append_right _ (List.mem_append_right _ (List.mem_append_right _ (List.mem_append_right _ (List.mem_append_right _ (List.mem_append_right _ (List.mem_append_right _ (List.mem_append_right _ (List.mem_append_right _ (List.mem_append_right _ (List.mem_append_right _ (List.mem_append_right _ (List.mem_append_right _ (List.mem_append_right _ (List.mem_append_right _ (List.mem_append_right _ (List.mem_append_right _ (List.mem_append_right _ (List.mem_append_right _ (List.mem_append_right _ (List.mem_append_right _ (List.mem_append_right _ (List.mem_append_right _ (List.mem_append_right _ (List.mem_append_right _ (List.mem_append_right _ (List.mem_append_right _ (List.mem_append_right _ (List.mem_append_left _ h)))))))))))))))))))))))))))))))))))))))
theorem ci_40 : ∀ w ∈ wsL_law_r40, w ∈ wsL_law := fun _ h => ciR _ (List.mem_append_right _ (List.mem_append_right _ (List.mem_append_right _ (List.mem_append_right _ (List.mem_append_right _ (List.mem_append_right _ (List.mem_append_right _ (List.mem_append_right _ (List.mem_append_right _ (List.mem_append_right _ (List.mem_append_right _ (List.mem_append_right _ (List.mem_append_right _ (List.mem_append_right _ (List.mem_append_right _ (List.mem_append_right _ (List.mem_append_right _ (List.mem_append_right _ (List.mem_append_right _ (List.mem_append_right _ (List.mem_append_right _ (List.mem_append_right _ (List.mem_append_right _ (List.mem_append_right _ (List.mem_append_right _ (List.mem_append_right _ (List.mem_append_right _ (List.mem_append_right _ (List.mem_append_right _ (List.mem_append_right _ (List.mem_append_right _ (List.mem_append_right _ (List.mem_append_right _ (List.mem_append_right _ (List.mem_append_right _ (List.mem_append_right _ (List.mem_append_right _ (List.mem_append_right _ (List.mem_append_right _ (List.mem_append_left _ h))))))))))))))))))))))))))))))))))))))))
theorem ci_41 : ∀ w ∈ wsL_law_r41, w ∈ wsL_law := fun _ h => ciR _ (List.mem_append_right _ (List.mem_append_right _ (List.mem_append_right _ (List.mem_append_right _ (List.mem_append_right _ (List.mem_append_right _ (List.mem_append_right _ (List.mem_append_right _ (List.mem_append_right _ (List.mem_append_right _ (List.mem_append_right _ (List.mem_append_right _ (List.mem_append_right _ (List.mem_append_right _ (List.mem_append_right _ (List.mem_append_right _ (List.mem_append_right _ (List.mem_append_right _ (List.mem_append_right _ (List.mem_append_right _ (List.mem_append_right _ (List.mem_append_right _ (List.mem_append_right _ (List.mem_append_right _ (List.mem_append_right _ (List.mem_append_right _ (List.mem_append_right _ (List.mem_append_right _ (List.mem_append_right _ (List.mem_append_right _ (List.mem_append_right _ (List.mem_append_right _ (List.mem_append_right _ (List.mem_append_right _ (List.mem_append_right _ (List.mem_append_right _ (List.mem_append_right _ (List.mem_append_right _ (List.mem_append_right _ (List.mem_append_right _ (h)))))))))))))))))))))))))))))))))))))))))
theorem all_c {a : Cond} {l big : List Cond} (h : a ∈ big) (t : ∀ w ∈ l, w ∈ big) : ∀ w ∈ a :: l, w ∈ big := List.forall_mem_cons.mpr ⟨h, t⟩
abbrev wd_2 : Cond := Cond.initialized RX11
theorem mw_2 : wd_2 ∈ wsL_law := ci_1 _ (List.mem_of_getElem? (i := 2) rfl)
abbrev wd_5 : Cond := Cond.initialized RX12
theorem mw_5 : wd_5 ∈ wsL_law := ci_1 _ (List.mem_of_getElem? (i := 5) rfl)
abbrev wd_8 : Cond := Cond.code yX11_init cX11_init 2 none
theorem mw_8 : wd_8 ∈ wsL_law := ci_1 _ (List.mem_of_getElem? (i := 8) rfl)
abbrev wd_9 : Cond := Cond.methodLink RX11 1 objectInit
theorem mw_9 : wd_9 ∈ wsL_law := ci_1 _ (List.mem_of_getElem? (i := 9) rfl)
abbrev wd_10 : Cond := Cond.instanceMethod objectInit
theorem mw_10 : wd_10 ∈ wsL_law := ci_1 _ (List.mem_of_getElem? (i := 10) rfl)
abbrev wd_11 : Cond := Cond.code objectInit ⟨#[0xb1]⟩ 1 none
theorem mw_11 : wd_11 ∈ wsL_law := ci_1 _ (List.mem_of_getElem? (i := 11) rfl)
abbrev wd_12 : Cond := Cond.classLink RX11 9 RX9
theorem mw_12 : wd_12 ∈ wsL_law := ci_1 _ (List.mem_of_getElem? (i := 12) rfl)
abbrev wd_13 : Cond := Cond.fieldLink RX11 11 "PageOne" "pages" "[LPageOne$Sheet;"
theorem mw_13 : wd_13 ∈ wsL_law := ci_1 _ (List.mem_of_getElem? (i := 13) rfl)
abbrev wd_14 : Cond := Cond.fieldLink RX11 15 "PageOne" "plates" "[LPageOne$Sheet;"
theorem mw_14 : wd_14 ∈ wsL_law := ci_1 _ (List.mem_of_getElem? (i := 14) rfl)
abbrev wd_15 : Cond := Cond.classLink RX11 18 RX4
theorem mw_15 : wd_15 ∈ wsL_law := ci_1 _ (List.mem_of_getElem? (i := 15) rfl)
abbrev wd_16 : Cond := Cond.fieldLink RX11 20 "PageOne" "items" "[LPageOne$Item;"
theorem mw_16 : wd_16 ∈ wsL_law := ci_1 _ (List.mem_of_getElem? (i := 16) rfl)
abbrev wd_17 : Cond := Cond.fieldLink RX11 24 "PageOne" "itemCount" "I"
theorem mw_17 : wd_17 ∈ wsL_law := ci_1 _ (List.mem_of_getElem? (i := 17) rfl)
abbrev wd_18 : Cond := Cond.classLink RX11 28 RX0
theorem mw_18 : wd_18 ∈ wsL_law := ci_1 _ (List.mem_of_getElem? (i := 18) rfl)
abbrev wd_19 : Cond := Cond.fieldLink RX11 30 "PageOne" "acts" "[LPageOne$Act;"
theorem mw_19 : wd_19 ∈ wsL_law := ci_1 _ (List.mem_of_getElem? (i := 19) rfl)
abbrev wd_20 : Cond := Cond.fieldLink RX11 34 "PageOne" "actCount" "I"
theorem mw_20 : wd_20 ∈ wsL_law := ci_1 _ (List.mem_of_getElem? (i := 20) rfl)
abbrev wd_21 : Cond := Cond.arrayClass .boolean
theorem mw_21 : wd_21 ∈ wsL_law := ci_1 _ (List.mem_of_getElem? (i := 21) rfl)
abbrev wd_22 : Cond := Cond.fieldLink RX11 37 "PageOne" "rivals" "[Z"
theorem mw_22 : wd_22 ∈ wsL_law := ci_1 _ (List.mem_of_getElem? (i := 22) rfl)
abbrev wd_23 : Cond := Cond.fieldLink RX11 41 "PageOne" "today" "I"
theorem mw_23 : wd_23 ∈ wsL_law := ci_1 _ (List.mem_of_getElem? (i := 23) rfl)
abbrev wd_24 : Cond := Cond.fieldLink RX11 44 "PageOne" "editionNow" "I"
theorem mw_24 : wd_24 ∈ wsL_law := ci_2 _ (List.mem_of_getElem? (i := 0) rfl)
abbrev wd_25 : Cond := Cond.instantiable RX9 5
theorem mw_25 : wd_25 ∈ wsL_law := ci_2 _ (List.mem_of_getElem? (i := 1) rfl)
abbrev wd_26 : Cond := Cond.initialized RX9
theorem mw_26 : wd_26 ∈ wsL_law := ci_2 _ (List.mem_of_getElem? (i := 2) rfl)
abbrev wd_27 : Cond := Cond.methodLink RX11 47 yX9_init
theorem mw_27 : wd_27 ∈ wsL_law := ci_2 _ (List.mem_of_getElem? (i := 3) rfl)
abbrev wd_28 : Cond := Cond.instanceMethod yX9_init
theorem mw_28 : wd_28 ∈ wsL_law := ci_2 _ (List.mem_of_getElem? (i := 4) rfl)
abbrev wd_29 : Cond := Cond.code yX9_init cX9_init 1 none
theorem mw_29 : wd_29 ∈ wsL_law := ci_2 _ (List.mem_of_getElem? (i := 5) rfl)
abbrev wd_30 : Cond := Cond.methodLink RX9 3 objectInit
theorem mw_30 : wd_30 ∈ wsL_law := ci_2 _ (List.mem_of_getElem? (i := 6) rfl)
abbrev wd_31 : Cond := Cond.arrayClass .int
theorem mw_31 : wd_31 ∈ wsL_law := ci_2 _ (List.mem_of_getElem? (i := 7) rfl)
abbrev wd_32 : Cond := Cond.fieldLink RX9 9 "PageOne$Sheet" "lines" "[I"
theorem mw_32 : wd_32 ∈ wsL_law := ci_2 _ (List.mem_of_getElem? (i := 8) rfl)
abbrev wd_33 : Cond := Cond.fieldLink RX9 15 "PageOne$Sheet" "cells" "[I"
theorem mw_33 : wd_33 ∈ wsL_law := ci_2 _ (List.mem_of_getElem? (i := 9) rfl)
abbrev wd_34 : Cond := Cond.fieldLink RX9 18 "PageOne$Sheet" "measure" "I"
theorem mw_34 : wd_34 ∈ wsL_law := ci_2 _ (List.mem_of_getElem? (i := 10) rfl)
abbrev wd_35 : Cond := Cond.fieldLink RX9 22 "PageOne$Sheet" "day" "I"
theorem mw_35 : wd_35 ∈ wsL_law := ci_2 _ (List.mem_of_getElem? (i := 11) rfl)
abbrev wd_36 : Cond := Cond.fieldLink RX9 25 "PageOne$Sheet" "edition" "I"
theorem mw_36 : wd_36 ∈ wsL_law := ci_2 _ (List.mem_of_getElem? (i := 12) rfl)
abbrev wd_37 : Cond := Cond.methodLink RX9 28 yJ7_fill_53178
theorem mw_37 : wd_37 ∈ wsL_law := ci_2 _ (List.mem_of_getElem? (i := 13) rfl)
abbrev wd_38 : Cond := Cond.static yJ7_fill_53178
theorem mw_38 : wd_38 ∈ wsL_law := ci_2 _ (List.mem_of_getElem? (i := 14) rfl)
abbrev wd_39 : Cond := Cond.initialized RJ7
theorem mw_39 : wd_39 ∈ wsL_law := ci_2 _ (List.mem_of_getElem? (i := 15) rfl)
abbrev wd_40 : Cond := Cond.code yJ7_fill_53178 cJ7_fill_53178 4 none
theorem mw_40 : wd_40 ∈ wsL_law := ci_2 _ (List.mem_of_getElem? (i := 16) rfl)
abbrev wd_43 : Cond := Cond.code yX12_init cX12_init 2 none
theorem mw_43 : wd_43 ∈ wsL_law := ci_2 _ (List.mem_of_getElem? (i := 19) rfl)
abbrev wd_44 : Cond := Cond.methodLink RX12 1 objectInit
theorem mw_44 : wd_44 ∈ wsL_law := ci_2 _ (List.mem_of_getElem? (i := 20) rfl)
abbrev wd_45 : Cond := Cond.fieldLink RX12 7 "PageOneModel" "lines" "[I"
theorem mw_45 : wd_45 ∈ wsL_law := ci_2 _ (List.mem_of_getElem? (i := 21) rfl)
abbrev wd_46 : Cond := Cond.fieldLink RX12 13 "PageOneModel" "measure" "[I"
theorem mw_46 : wd_46 ∈ wsL_law := ci_2 _ (List.mem_of_getElem? (i := 22) rfl)
abbrev wd_47 : Cond := Cond.fieldLink RX12 16 "PageOneModel" "cell" "[I"
theorem mw_47 : wd_47 ∈ wsL_law := ci_2 _ (List.mem_of_getElem? (i := 23) rfl)
abbrev wd_48 : Cond := Cond.fieldLink RX12 19 "PageOneModel" "kind" "[I"
theorem mw_48 : wd_48 ∈ wsL_law := ci_3 _ (List.mem_of_getElem? (i := 0) rfl)
abbrev wd_49 : Cond := Cond.fieldLink RX12 22 "PageOneModel" "least" "[I"
theorem mw_49 : wd_49 ∈ wsL_law := ci_3 _ (List.mem_of_getElem? (i := 1) rfl)
abbrev wd_50 : Cond := Cond.fieldLink RX12 25 "PageOneModel" "most" "[I"
theorem mw_50 : wd_50 ∈ wsL_law := ci_3 _ (List.mem_of_getElem? (i := 2) rfl)
abbrev wd_51 : Cond := Cond.fieldLink RX12 28 "PageOneModel" "wide" "[I"
theorem mw_51 : wd_51 ∈ wsL_law := ci_3 _ (List.mem_of_getElem? (i := 3) rfl)
abbrev wd_52 : Cond := Cond.fieldLink RX12 31 "PageOneModel" "high" "[I"
theorem mw_52 : wd_52 ∈ wsL_law := ci_3 _ (List.mem_of_getElem? (i := 4) rfl)
abbrev wd_53 : Cond := Cond.fieldLink RX12 34 "PageOneModel" "of" "[I"
theorem mw_53 : wd_53 ∈ wsL_law := ci_3 _ (List.mem_of_getElem? (i := 5) rfl)
abbrev wd_54 : Cond := Cond.fieldLink RX12 37 "PageOneModel" "buyer" "[I"
theorem mw_54 : wd_54 ∈ wsL_law := ci_3 _ (List.mem_of_getElem? (i := 6) rfl)
abbrev wd_55 : Cond := Cond.fieldLink RX12 40 "PageOneModel" "soldPage" "[I"
theorem mw_55 : wd_55 ∈ wsL_law := ci_3 _ (List.mem_of_getElem? (i := 7) rfl)
abbrev wd_56 : Cond := Cond.fieldLink RX12 43 "PageOneModel" "soldColumn" "[I"
theorem mw_56 : wd_56 ∈ wsL_law := ci_3 _ (List.mem_of_getElem? (i := 8) rfl)
abbrev wd_57 : Cond := Cond.fieldLink RX12 46 "PageOneModel" "soldLine" "[I"
theorem mw_57 : wd_57 ∈ wsL_law := ci_3 _ (List.mem_of_getElem? (i := 9) rfl)
abbrev wd_58 : Cond := Cond.fieldLink RX12 49 "PageOneModel" "price" "[I"
theorem mw_58 : wd_58 ∈ wsL_law := ci_3 _ (List.mem_of_getElem? (i := 10) rfl)
abbrev wd_59 : Cond := Cond.fieldLink RX12 52 "PageOneModel" "come" "[I"
theorem mw_59 : wd_59 ∈ wsL_law := ci_3 _ (List.mem_of_getElem? (i := 11) rfl)
abbrev wd_60 : Cond := Cond.fieldLink RX12 55 "PageOneModel" "width" "[I"
theorem mw_60 : wd_60 ∈ wsL_law := ci_3 _ (List.mem_of_getElem? (i := 12) rfl)
abbrev wd_61 : Cond := Cond.fieldLink RX12 58 "PageOneModel" "sizes" "[I"
theorem mw_61 : wd_61 ∈ wsL_law := ci_3 _ (List.mem_of_getElem? (i := 13) rfl)
abbrev wd_62 : Cond := Cond.fieldLink RX12 61 "PageOneModel" "sizeW" "[I"
theorem mw_62 : wd_62 ∈ wsL_law := ci_3 _ (List.mem_of_getElem? (i := 14) rfl)
abbrev wd_63 : Cond := Cond.fieldLink RX12 64 "PageOneModel" "sizeH" "[I"
theorem mw_63 : wd_63 ∈ wsL_law := ci_3 _ (List.mem_of_getElem? (i := 15) rfl)
abbrev wd_64 : Cond := Cond.fieldLink RX12 67 "PageOneModel" "isRival" "[Z"
theorem mw_64 : wd_64 ∈ wsL_law := ci_3 _ (List.mem_of_getElem? (i := 16) rfl)
abbrev wd_65 : Cond := Cond.fieldLink RX12 71 "PageOneModel" "isNamed" "[Z"
theorem mw_65 : wd_65 ∈ wsL_law := ci_3 _ (List.mem_of_getElem? (i := 17) rfl)
abbrev wd_66 : Cond := Cond.fieldLink RX12 74 "PageOneModel" "pieces" "[I"
theorem mw_66 : wd_66 ∈ wsL_law := ci_3 _ (List.mem_of_getElem? (i := 18) rfl)
abbrev wd_67 : Cond := Cond.fieldLink RX12 77 "PageOneModel" "pPage" "[I"
theorem mw_67 : wd_67 ∈ wsL_law := ci_3 _ (List.mem_of_getElem? (i := 19) rfl)
abbrev wd_68 : Cond := Cond.fieldLink RX12 80 "PageOneModel" "pColumn" "[I"
theorem mw_68 : wd_68 ∈ wsL_law := ci_3 _ (List.mem_of_getElem? (i := 20) rfl)
abbrev wd_69 : Cond := Cond.fieldLink RX12 83 "PageOneModel" "pLine" "[I"
theorem mw_69 : wd_69 ∈ wsL_law := ci_3 _ (List.mem_of_getElem? (i := 21) rfl)
abbrev wd_70 : Cond := Cond.fieldLink RX12 86 "PageOneModel" "pWide" "[I"
theorem mw_70 : wd_70 ∈ wsL_law := ci_3 _ (List.mem_of_getElem? (i := 22) rfl)
abbrev wd_71 : Cond := Cond.fieldLink RX12 89 "PageOneModel" "pHigh" "[I"
theorem mw_71 : wd_71 ∈ wsL_law := ci_3 _ (List.mem_of_getElem? (i := 23) rfl)
abbrev wd_72 : Cond := Cond.fieldLink RX12 92 "PageOneModel" "actKind" "[I"
theorem mw_72 : wd_72 ∈ wsL_law := ci_4 _ (List.mem_of_getElem? (i := 0) rfl)
abbrev wd_73 : Cond := Cond.fieldLink RX12 95 "PageOneModel" "actA" "[I"
theorem mw_73 : wd_73 ∈ wsL_law := ci_4 _ (List.mem_of_getElem? (i := 1) rfl)
abbrev wd_74 : Cond := Cond.fieldLink RX12 98 "PageOneModel" "actB" "[I"
theorem mw_74 : wd_74 ∈ wsL_law := ci_4 _ (List.mem_of_getElem? (i := 2) rfl)
abbrev wd_75 : Cond := Cond.fieldLink RX12 101 "PageOneModel" "actC" "[I"
theorem mw_75 : wd_75 ∈ wsL_law := ci_4 _ (List.mem_of_getElem? (i := 3) rfl)
abbrev wd_76 : Cond := Cond.fieldLink RX12 104 "PageOneModel" "actD" "[I"
theorem mw_76 : wd_76 ∈ wsL_law := ci_4 _ (List.mem_of_getElem? (i := 4) rfl)
abbrev wd_77 : Cond := Cond.fieldLink RX12 107 "PageOneModel" "actE" "[I"
theorem mw_77 : wd_77 ∈ wsL_law := ci_4 _ (List.mem_of_getElem? (i := 5) rfl)
abbrev wd_78 : Cond := Cond.fieldLink RX12 110 "PageOneModel" "actF" "[I"
theorem mw_78 : wd_78 ∈ wsL_law := ci_4 _ (List.mem_of_getElem? (i := 6) rfl)
abbrev wd_79 : Cond := Cond.fieldLink RX12 113 "PageOneModel" "filler" "[I"
theorem mw_79 : wd_79 ∈ wsL_law := ci_4 _ (List.mem_of_getElem? (i := 7) rfl)
abbrev wd_80 : Cond := Cond.fieldLink RX12 116 "PageOneModel" "isPlated" "[Z"
theorem mw_80 : wd_80 ∈ wsL_law := ci_4 _ (List.mem_of_getElem? (i := 8) rfl)
abbrev wd_81 : Cond := Cond.fieldLink RX12 119 "PageOneModel" "plateDay" "[I"
theorem mw_81 : wd_81 ∈ wsL_law := ci_4 _ (List.mem_of_getElem? (i := 9) rfl)
abbrev wd_82 : Cond := Cond.fieldLink RX12 122 "PageOneModel" "plateEdition" "[I"
theorem mw_82 : wd_82 ∈ wsL_law := ci_4 _ (List.mem_of_getElem? (i := 10) rfl)
abbrev wd_83 : Cond := Cond.fieldLink RX12 125 "PageOneModel" "plateLines" "[I"
theorem mw_83 : wd_83 ∈ wsL_law := ci_4 _ (List.mem_of_getElem? (i := 11) rfl)
abbrev wd_84 : Cond := Cond.fieldLink RX12 128 "PageOneModel" "plateCell" "[I"
theorem mw_84 : wd_84 ∈ wsL_law := ci_4 _ (List.mem_of_getElem? (i := 12) rfl)
abbrev wd_85 : Cond := Cond.fieldLink RX12 131 "PageOneModel" "plateColumn" "[I"
theorem mw_85 : wd_85 ∈ wsL_law := ci_4 _ (List.mem_of_getElem? (i := 13) rfl)
abbrev wd_86 : Cond := Cond.fieldLink RX12 134 "PageOneModel" "plateLine" "[I"
theorem mw_86 : wd_86 ∈ wsL_law := ci_4 _ (List.mem_of_getElem? (i := 14) rfl)
abbrev wd_87 : Cond := Cond.fieldLink RX12 137 "PageOneModel" "first" "[I"
theorem mw_87 : wd_87 ∈ wsL_law := ci_4 _ (List.mem_of_getElem? (i := 15) rfl)
abbrev wd_88 : Cond := Cond.fieldLink RX12 140 "PageOneModel" "isOn" "[Z"
theorem mw_88 : wd_88 ∈ wsL_law := ci_4 _ (List.mem_of_getElem? (i := 16) rfl)
abbrev wd_89 : Cond := Cond.methodLink RL 13 yX11_column
theorem mw_89 : wd_89 ∈ wsL_law := ci_4 _ (List.mem_of_getElem? (i := 17) rfl)
abbrev wd_90 : Cond := Cond.instanceMethod yX11_column
theorem mw_90 : wd_90 ∈ wsL_law := ci_4 _ (List.mem_of_getElem? (i := 18) rfl)
abbrev wd_91 : Cond := Cond.selects RX11 yX11_column yX11_column
theorem mw_91 : wd_91 ∈ wsL_law := ci_4 _ (List.mem_of_getElem? (i := 19) rfl)
abbrev wd_92 : Cond := Cond.code yX11_column cX11_column 4 (some .boolean)
theorem mw_92 : wd_92 ∈ wsL_law := ci_4 _ (List.mem_of_getElem? (i := 20) rfl)
abbrev wd_93 : Cond := Cond.fieldLink RX11 59 "PageOne$Sheet" "lines" "[I"
theorem mw_93 : wd_93 ∈ wsL_law := ci_4 _ (List.mem_of_getElem? (i := 21) rfl)
abbrev wd_94 : Cond := Cond.methodLink RX11 48 yX11_isPage
theorem mw_94 : wd_94 ∈ wsL_law := ci_4 _ (List.mem_of_getElem? (i := 22) rfl)
abbrev wd_95 : Cond := Cond.static yX11_isPage
theorem mw_95 : wd_95 ∈ wsL_law := ci_4 _ (List.mem_of_getElem? (i := 23) rfl)
abbrev wd_96 : Cond := Cond.code yX11_isPage cX11_isPage 1 (some .boolean)
theorem mw_96 : wd_96 ∈ wsL_law := ci_5 _ (List.mem_of_getElem? (i := 0) rfl)
abbrev wd_97 : Cond := Cond.methodLink RX11 55 yX11_isWithin
theorem mw_97 : wd_97 ∈ wsL_law := ci_5 _ (List.mem_of_getElem? (i := 1) rfl)
abbrev wd_98 : Cond := Cond.static yX11_isWithin
theorem mw_98 : wd_98 ∈ wsL_law := ci_5 _ (List.mem_of_getElem? (i := 2) rfl)
abbrev wd_99 : Cond := Cond.code yX11_isWithin cX11_isWithin 3 (some .boolean)
theorem mw_99 : wd_99 ∈ wsL_law := ci_5 _ (List.mem_of_getElem? (i := 3) rfl)
abbrev wd_100 : Cond := Cond.methodLink RX11 52 yX11_isColumn
theorem mw_100 : wd_100 ∈ wsL_law := ci_5 _ (List.mem_of_getElem? (i := 4) rfl)
abbrev wd_101 : Cond := Cond.static yX11_isColumn
theorem mw_101 : wd_101 ∈ wsL_law := ci_5 _ (List.mem_of_getElem? (i := 5) rfl)
abbrev wd_102 : Cond := Cond.code yX11_isColumn cX11_isColumn 1 (some .boolean)
theorem mw_102 : wd_102 ∈ wsL_law := ci_5 _ (List.mem_of_getElem? (i := 6) rfl)
abbrev wd_103 : Cond := Cond.methodLink RL 17 yX12_column
theorem mw_103 : wd_103 ∈ wsL_law := ci_5 _ (List.mem_of_getElem? (i := 7) rfl)
abbrev wd_104 : Cond := Cond.instanceMethod yX12_column
theorem mw_104 : wd_104 ∈ wsL_law := ci_5 _ (List.mem_of_getElem? (i := 8) rfl)
abbrev wd_105 : Cond := Cond.selects RX12 yX12_column yX12_column
theorem mw_105 : wd_105 ∈ wsL_law := ci_5 _ (List.mem_of_getElem? (i := 9) rfl)
abbrev wd_106 : Cond := Cond.code yX12_column cX12_column 5 (some .boolean)
theorem mw_106 : wd_106 ∈ wsL_law := ci_5 _ (List.mem_of_getElem? (i := 10) rfl)
abbrev wd_107 : Cond := Cond.fieldLink RX12 158 "PageOneModel" "acts" "I"
theorem mw_107 : wd_107 ∈ wsL_law := ci_5 _ (List.mem_of_getElem? (i := 11) rfl)
abbrev wd_108 : Cond := Cond.methodLink RX12 155 yX12_isPage
theorem mw_108 : wd_108 ∈ wsL_law := ci_5 _ (List.mem_of_getElem? (i := 12) rfl)
abbrev wd_109 : Cond := Cond.static yX12_isPage
theorem mw_109 : wd_109 ∈ wsL_law := ci_5 _ (List.mem_of_getElem? (i := 13) rfl)
abbrev wd_110 : Cond := Cond.code yX12_isPage cX12_isPage 1 (some .boolean)
theorem mw_110 : wd_110 ∈ wsL_law := ci_5 _ (List.mem_of_getElem? (i := 14) rfl)
abbrev wd_111 : Cond := Cond.methodLink RX12 143 yX12_in
theorem mw_111 : wd_111 ∈ wsL_law := ci_5 _ (List.mem_of_getElem? (i := 15) rfl)
abbrev wd_112 : Cond := Cond.static yX12_in
theorem mw_112 : wd_112 ∈ wsL_law := ci_5 _ (List.mem_of_getElem? (i := 16) rfl)
abbrev wd_113 : Cond := Cond.code yX12_in cX12_in 3 (some .boolean)
theorem mw_113 : wd_113 ∈ wsL_law := ci_5 _ (List.mem_of_getElem? (i := 17) rfl)
abbrev wd_114 : Cond := Cond.methodLink RX12 161 yX12_at
theorem mw_114 : wd_114 ∈ wsL_law := ci_5 _ (List.mem_of_getElem? (i := 18) rfl)
abbrev wd_115 : Cond := Cond.static yX12_at
theorem mw_115 : wd_115 ∈ wsL_law := ci_5 _ (List.mem_of_getElem? (i := 19) rfl)
abbrev wd_116 : Cond := Cond.code yX12_at cX12_at 3 (some .int)
theorem mw_116 : wd_116 ∈ wsL_law := ci_5 _ (List.mem_of_getElem? (i := 20) rfl)
abbrev wd_117 : Cond := Cond.methodLink RL 18 yX11_measure
theorem mw_117 : wd_117 ∈ wsL_law := ci_5 _ (List.mem_of_getElem? (i := 21) rfl)
abbrev wd_118 : Cond := Cond.instanceMethod yX11_measure
theorem mw_118 : wd_118 ∈ wsL_law := ci_5 _ (List.mem_of_getElem? (i := 22) rfl)
abbrev wd_119 : Cond := Cond.selects RX11 yX11_measure yX11_measure
theorem mw_119 : wd_119 ∈ wsL_law := ci_5 _ (List.mem_of_getElem? (i := 23) rfl)
abbrev wd_120 : Cond := Cond.code yX11_measure cX11_measure 3 (some .boolean)
theorem mw_120 : wd_120 ∈ wsL_law := ci_6 _ (List.mem_of_getElem? (i := 0) rfl)
abbrev wd_121 : Cond := Cond.fieldLink RX11 63 "PageOne$Sheet" "measure" "I"
theorem mw_121 : wd_121 ∈ wsL_law := ci_6 _ (List.mem_of_getElem? (i := 1) rfl)
abbrev wd_122 : Cond := Cond.methodLink RL 22 yX12_measure
theorem mw_122 : wd_122 ∈ wsL_law := ci_6 _ (List.mem_of_getElem? (i := 2) rfl)
abbrev wd_123 : Cond := Cond.instanceMethod yX12_measure
theorem mw_123 : wd_123 ∈ wsL_law := ci_6 _ (List.mem_of_getElem? (i := 3) rfl)
abbrev wd_124 : Cond := Cond.selects RX12 yX12_measure yX12_measure
theorem mw_124 : wd_124 ∈ wsL_law := ci_6 _ (List.mem_of_getElem? (i := 4) rfl)
abbrev wd_125 : Cond := Cond.code yX12_measure cX12_measure 3 (some .boolean)
theorem mw_125 : wd_125 ∈ wsL_law := ci_6 _ (List.mem_of_getElem? (i := 5) rfl)
abbrev wd_126 : Cond := Cond.methodLink RX12 165 yX12_hasPiece
theorem mw_126 : wd_126 ∈ wsL_law := ci_6 _ (List.mem_of_getElem? (i := 6) rfl)
abbrev wd_127 : Cond := Cond.instanceMethod yX12_hasPiece
theorem mw_127 : wd_127 ∈ wsL_law := ci_6 _ (List.mem_of_getElem? (i := 7) rfl)
abbrev wd_128 : Cond := Cond.selects RX12 yX12_hasPiece yX12_hasPiece
theorem mw_128 : wd_128 ∈ wsL_law := ci_6 _ (List.mem_of_getElem? (i := 8) rfl)
abbrev wd_129 : Cond := Cond.code yX12_hasPiece cX12_hasPiece 4 (some .boolean)
theorem mw_129 : wd_129 ∈ wsL_law := ci_6 _ (List.mem_of_getElem? (i := 9) rfl)
abbrev wd_130 : Cond := Cond.methodLink RL 23 yX11_story
theorem mw_130 : wd_130 ∈ wsL_law := ci_6 _ (List.mem_of_getElem? (i := 10) rfl)
abbrev wd_131 : Cond := Cond.instanceMethod yX11_story
theorem mw_131 : wd_131 ∈ wsL_law := ci_6 _ (List.mem_of_getElem? (i := 11) rfl)
abbrev wd_132 : Cond := Cond.selects RX11 yX11_story yX11_story
theorem mw_132 : wd_132 ∈ wsL_law := ci_6 _ (List.mem_of_getElem? (i := 12) rfl)
abbrev wd_133 : Cond := Cond.code yX11_story cX11_story 2 (some .int)
theorem mw_133 : wd_133 ∈ wsL_law := ci_6 _ (List.mem_of_getElem? (i := 13) rfl)
abbrev wd_134 : Cond := Cond.classLink RX11 66 RX10
theorem mw_134 : wd_134 ∈ wsL_law := ci_6 _ (List.mem_of_getElem? (i := 14) rfl)
abbrev wd_135 : Cond := Cond.instantiable RX10 9
theorem mw_135 : wd_135 ∈ wsL_law := ci_6 _ (List.mem_of_getElem? (i := 15) rfl)
abbrev wd_136 : Cond := Cond.initialized RX10
theorem mw_136 : wd_136 ∈ wsL_law := ci_6 _ (List.mem_of_getElem? (i := 16) rfl)
abbrev wd_137 : Cond := Cond.methodLink RX11 68 yX10_init
theorem mw_137 : wd_137 ∈ wsL_law := ci_6 _ (List.mem_of_getElem? (i := 17) rfl)
abbrev wd_138 : Cond := Cond.instanceMethod yX10_init
theorem mw_138 : wd_138 ∈ wsL_law := ci_6 _ (List.mem_of_getElem? (i := 18) rfl)
abbrev wd_139 : Cond := Cond.code yX10_init cX10_init 3 none
theorem mw_139 : wd_139 ∈ wsL_law := ci_6 _ (List.mem_of_getElem? (i := 19) rfl)
abbrev wd_140 : Cond := Cond.fieldLink RX10 9 "PageOne$Story" "widths" "[I"
theorem mw_140 : wd_140 ∈ wsL_law := ci_6 _ (List.mem_of_getElem? (i := 20) rfl)
abbrev wd_141 : Cond := Cond.fieldLink RX10 15 "PageOne$Story" "come" "I"
theorem mw_141 : wd_141 ∈ wsL_law := ci_6 _ (List.mem_of_getElem? (i := 21) rfl)
abbrev wd_142 : Cond := Cond.fieldLink RX10 19 "PageOne$Story" "named" "[Z"
theorem mw_142 : wd_142 ∈ wsL_law := ci_6 _ (List.mem_of_getElem? (i := 22) rfl)
abbrev wd_143 : Cond := Cond.fieldLink RX10 23 "PageOne$Story" "least" "I"
theorem mw_143 : wd_143 ∈ wsL_law := ci_6 _ (List.mem_of_getElem? (i := 23) rfl)
abbrev wd_144 : Cond := Cond.methodLink RX10 3 yX4_init
theorem mw_144 : wd_144 ∈ wsL_law := ci_7 _ (List.mem_of_getElem? (i := 0) rfl)
abbrev wd_145 : Cond := Cond.instanceMethod yX4_init
theorem mw_145 : wd_145 ∈ wsL_law := ci_7 _ (List.mem_of_getElem? (i := 1) rfl)
abbrev wd_146 : Cond := Cond.initialized RX4
theorem mw_146 : wd_146 ∈ wsL_law := ci_7 _ (List.mem_of_getElem? (i := 2) rfl)
abbrev wd_147 : Cond := Cond.code yX4_init cX4_init 4 none
theorem mw_147 : wd_147 ∈ wsL_law := ci_7 _ (List.mem_of_getElem? (i := 3) rfl)
abbrev wd_148 : Cond := Cond.methodLink RX4 3 objectInit
theorem mw_148 : wd_148 ∈ wsL_law := ci_7 _ (List.mem_of_getElem? (i := 4) rfl)
abbrev wd_149 : Cond := Cond.fieldLink RX4 9 "PageOne$Item" "count" "I"
theorem mw_149 : wd_149 ∈ wsL_law := ci_7 _ (List.mem_of_getElem? (i := 5) rfl)
abbrev wd_150 : Cond := Cond.fieldLink RX4 15 "PageOne$Item" "first" "[I"
theorem mw_150 : wd_150 ∈ wsL_law := ci_7 _ (List.mem_of_getElem? (i := 6) rfl)
abbrev wd_151 : Cond := Cond.fieldLink RX4 19 "PageOne$Item" "number" "I"
theorem mw_151 : wd_151 ∈ wsL_law := ci_7 _ (List.mem_of_getElem? (i := 7) rfl)
abbrev wd_152 : Cond := Cond.fieldLink RX4 22 "PageOne$Item" "kind" "I"
theorem mw_152 : wd_152 ∈ wsL_law := ci_7 _ (List.mem_of_getElem? (i := 8) rfl)
abbrev wd_153 : Cond := Cond.classLink RX4 29 RX8
theorem mw_153 : wd_153 ∈ wsL_law := ci_7 _ (List.mem_of_getElem? (i := 9) rfl)
abbrev wd_154 : Cond := Cond.fieldLink RX4 31 "PageOne$Item" "pieces" "[LPageOne$Piece;"
theorem mw_154 : wd_154 ∈ wsL_law := ci_7 _ (List.mem_of_getElem? (i := 10) rfl)
abbrev wd_155 : Cond := Cond.methodLink RX4 35 yJ7_fill_53178
theorem mw_155 : wd_155 ∈ wsL_law := ci_7 _ (List.mem_of_getElem? (i := 11) rfl)
abbrev wd_156 : Cond := Cond.methodLink RX11 71 yX11_enter
theorem mw_156 : wd_156 ∈ wsL_law := ci_7 _ (List.mem_of_getElem? (i := 12) rfl)
abbrev wd_157 : Cond := Cond.instanceMethod yX11_enter
theorem mw_157 : wd_157 ∈ wsL_law := ci_7 _ (List.mem_of_getElem? (i := 13) rfl)
abbrev wd_158 : Cond := Cond.selects RX11 yX11_enter yX11_enter
theorem mw_158 : wd_158 ∈ wsL_law := ci_7 _ (List.mem_of_getElem? (i := 14) rfl)
abbrev wd_159 : Cond := Cond.code yX11_enter cX11_enter 2 (some .int)
theorem mw_159 : wd_159 ∈ wsL_law := ci_7 _ (List.mem_of_getElem? (i := 15) rfl)
abbrev wd_160 : Cond := Cond.fieldLink RX11 285 "PageOne$Item" "number" "I"
theorem mw_160 : wd_160 ∈ wsL_law := ci_7 _ (List.mem_of_getElem? (i := 16) rfl)
abbrev wd_161 : Cond := Cond.methodLink RL 27 yX12_story
theorem mw_161 : wd_161 ∈ wsL_law := ci_7 _ (List.mem_of_getElem? (i := 17) rfl)
abbrev wd_162 : Cond := Cond.instanceMethod yX12_story
theorem mw_162 : wd_162 ∈ wsL_law := ci_7 _ (List.mem_of_getElem? (i := 18) rfl)
abbrev wd_163 : Cond := Cond.selects RX12 yX12_story yX12_story
theorem mw_163 : wd_163 ∈ wsL_law := ci_7 _ (List.mem_of_getElem? (i := 19) rfl)
abbrev wd_164 : Cond := Cond.code yX12_story cX12_story 3 (some .int)
theorem mw_164 : wd_164 ∈ wsL_law := ci_7 _ (List.mem_of_getElem? (i := 20) rfl)
abbrev wd_165 : Cond := Cond.fieldLink RX12 147 "PageOneModel" "items" "I"
theorem mw_165 : wd_165 ∈ wsL_law := ci_7 _ (List.mem_of_getElem? (i := 21) rfl)
abbrev wd_166 : Cond := Cond.methodLink RX12 171 yX12_made
theorem mw_166 : wd_166 ∈ wsL_law := ci_7 _ (List.mem_of_getElem? (i := 22) rfl)
abbrev wd_167 : Cond := Cond.instanceMethod yX12_made
theorem mw_167 : wd_167 ∈ wsL_law := ci_7 _ (List.mem_of_getElem? (i := 23) rfl)
abbrev wd_168 : Cond := Cond.selects RX12 yX12_made yX12_made
theorem mw_168 : wd_168 ∈ wsL_law := ci_8 _ (List.mem_of_getElem? (i := 0) rfl)
abbrev wd_169 : Cond := Cond.code yX12_made cX12_made 3 (some .int)
theorem mw_169 : wd_169 ∈ wsL_law := ci_8 _ (List.mem_of_getElem? (i := 1) rfl)
abbrev wd_170 : Cond := Cond.methodLink RL 28 yX11_line
theorem mw_170 : wd_170 ∈ wsL_law := ci_8 _ (List.mem_of_getElem? (i := 2) rfl)
abbrev wd_171 : Cond := Cond.instanceMethod yX11_line
theorem mw_171 : wd_171 ∈ wsL_law := ci_8 _ (List.mem_of_getElem? (i := 3) rfl)
abbrev wd_172 : Cond := Cond.selects RX11 yX11_line yX11_line
theorem mw_172 : wd_172 ∈ wsL_law := ci_8 _ (List.mem_of_getElem? (i := 4) rfl)
abbrev wd_173 : Cond := Cond.code yX11_line cX11_line 5 (some .int)
theorem mw_173 : wd_173 ∈ wsL_law := ci_8 _ (List.mem_of_getElem? (i := 5) rfl)
abbrev wd_174 : Cond := Cond.classLink RX11 66 "PageOne$Story"
theorem mw_174 : wd_174 ∈ wsL_law := ci_8 _ (List.mem_of_getElem? (i := 6) rfl)
abbrev wd_175 : Cond := Cond.methodLink RX11 75 yX11_itemOf
theorem mw_175 : wd_175 ∈ wsL_law := ci_8 _ (List.mem_of_getElem? (i := 7) rfl)
abbrev wd_176 : Cond := Cond.instanceMethod yX11_itemOf
theorem mw_176 : wd_176 ∈ wsL_law := ci_8 _ (List.mem_of_getElem? (i := 8) rfl)
abbrev wd_177 : Cond := Cond.selects RX11 yX11_itemOf yX11_itemOf
theorem mw_177 : wd_177 ∈ wsL_law := ci_8 _ (List.mem_of_getElem? (i := 9) rfl)
abbrev wd_178 : Cond := Cond.code yX11_itemOf cX11_itemOf 2 (some (.object "PageOne$Item"))
theorem mw_178 : wd_178 ∈ wsL_law := ci_8 _ (List.mem_of_getElem? (i := 10) rfl)
abbrev wd_179 : Cond := Cond.methodLink RX11 79 yX10_takeIn
theorem mw_179 : wd_179 ∈ wsL_law := ci_8 _ (List.mem_of_getElem? (i := 11) rfl)
abbrev wd_180 : Cond := Cond.instanceMethod yX10_takeIn
theorem mw_180 : wd_180 ∈ wsL_law := ci_8 _ (List.mem_of_getElem? (i := 12) rfl)
abbrev wd_181 : Cond := Cond.selects RX10 yX10_takeIn yX10_takeIn
theorem mw_181 : wd_181 ∈ wsL_law := ci_8 _ (List.mem_of_getElem? (i := 13) rfl)
abbrev wd_182 : Cond := Cond.code yX10_takeIn cX10_takeIn 2 (some .int)
theorem mw_182 : wd_182 ∈ wsL_law := ci_8 _ (List.mem_of_getElem? (i := 14) rfl)
abbrev wd_183 : Cond := Cond.methodLink RL 32 yX12_line
theorem mw_183 : wd_183 ∈ wsL_law := ci_8 _ (List.mem_of_getElem? (i := 15) rfl)
abbrev wd_184 : Cond := Cond.instanceMethod yX12_line
theorem mw_184 : wd_184 ∈ wsL_law := ci_8 _ (List.mem_of_getElem? (i := 16) rfl)
abbrev wd_185 : Cond := Cond.selects RX12 yX12_line yX12_line
theorem mw_185 : wd_185 ∈ wsL_law := ci_8 _ (List.mem_of_getElem? (i := 17) rfl)
abbrev wd_186 : Cond := Cond.code yX12_line cX12_line 3 (some .int)
theorem mw_186 : wd_186 ∈ wsL_law := ci_8 _ (List.mem_of_getElem? (i := 18) rfl)
abbrev wd_187 : Cond := Cond.methodLink RX12 175 yX12_isKind
theorem mw_187 : wd_187 ∈ wsL_law := ci_8 _ (List.mem_of_getElem? (i := 19) rfl)
abbrev wd_188 : Cond := Cond.instanceMethod yX12_isKind
theorem mw_188 : wd_188 ∈ wsL_law := ci_8 _ (List.mem_of_getElem? (i := 20) rfl)
abbrev wd_189 : Cond := Cond.selects RX12 yX12_isKind yX12_isKind
theorem mw_189 : wd_189 ∈ wsL_law := ci_8 _ (List.mem_of_getElem? (i := 21) rfl)
abbrev wd_190 : Cond := Cond.code yX12_isKind cX12_isKind 3 (some .boolean)
theorem mw_190 : wd_190 ∈ wsL_law := ci_8 _ (List.mem_of_getElem? (i := 22) rfl)
abbrev wd_191 : Cond := Cond.methodLink RX12 151 yX12_isItem
theorem mw_191 : wd_191 ∈ wsL_law := ci_8 _ (List.mem_of_getElem? (i := 23) rfl)
abbrev wd_192 : Cond := Cond.instanceMethod yX12_isItem
theorem mw_192 : wd_192 ∈ wsL_law := ci_9 _ (List.mem_of_getElem? (i := 0) rfl)
abbrev wd_193 : Cond := Cond.selects RX12 yX12_isItem yX12_isItem
theorem mw_193 : wd_193 ∈ wsL_law := ci_9 _ (List.mem_of_getElem? (i := 1) rfl)
abbrev wd_194 : Cond := Cond.code yX12_isItem cX12_isItem 2 (some .boolean)
theorem mw_194 : wd_194 ∈ wsL_law := ci_9 _ (List.mem_of_getElem? (i := 2) rfl)
abbrev wd_195 : Cond := Cond.methodLink RL 33 yX11_head
theorem mw_195 : wd_195 ∈ wsL_law := ci_9 _ (List.mem_of_getElem? (i := 3) rfl)
abbrev wd_196 : Cond := Cond.instanceMethod yX11_head
theorem mw_196 : wd_196 ∈ wsL_law := ci_9 _ (List.mem_of_getElem? (i := 4) rfl)
abbrev wd_197 : Cond := Cond.selects RX11 yX11_head yX11_head
theorem mw_197 : wd_197 ∈ wsL_law := ci_9 _ (List.mem_of_getElem? (i := 5) rfl)
abbrev wd_198 : Cond := Cond.code yX11_head cX11_head 6 (some .int)
theorem mw_198 : wd_198 ∈ wsL_law := ci_9 _ (List.mem_of_getElem? (i := 6) rfl)
abbrev wd_199 : Cond := Cond.classLink RX11 83 RX3
theorem mw_199 : wd_199 ∈ wsL_law := ci_9 _ (List.mem_of_getElem? (i := 7) rfl)
abbrev wd_200 : Cond := Cond.instantiable RX3 8
theorem mw_200 : wd_200 ∈ wsL_law := ci_9 _ (List.mem_of_getElem? (i := 8) rfl)
abbrev wd_201 : Cond := Cond.initialized RX3
theorem mw_201 : wd_201 ∈ wsL_law := ci_9 _ (List.mem_of_getElem? (i := 9) rfl)
abbrev wd_202 : Cond := Cond.methodLink RX11 85 yX3_init
theorem mw_202 : wd_202 ∈ wsL_law := ci_9 _ (List.mem_of_getElem? (i := 10) rfl)
abbrev wd_203 : Cond := Cond.instanceMethod yX3_init
theorem mw_203 : wd_203 ∈ wsL_law := ci_9 _ (List.mem_of_getElem? (i := 11) rfl)
abbrev wd_204 : Cond := Cond.code yX3_init cX3_init 5 none
theorem mw_204 : wd_204 ∈ wsL_law := ci_9 _ (List.mem_of_getElem? (i := 12) rfl)
abbrev wd_205 : Cond := Cond.fieldLink RX3 9 "PageOne$Head" "owner" "LPageOne$Story;"
theorem mw_205 : wd_205 ∈ wsL_law := ci_9 _ (List.mem_of_getElem? (i := 13) rfl)
abbrev wd_206 : Cond := Cond.fieldLink RX3 15 "PageOne$Head" "w" "I"
theorem mw_206 : wd_206 ∈ wsL_law := ci_9 _ (List.mem_of_getElem? (i := 14) rfl)
abbrev wd_207 : Cond := Cond.fieldLink RX3 19 "PageOne$Head" "h" "I"
theorem mw_207 : wd_207 ∈ wsL_law := ci_9 _ (List.mem_of_getElem? (i := 15) rfl)
abbrev wd_208 : Cond := Cond.methodLink RX3 3 yX4_init
theorem mw_208 : wd_208 ∈ wsL_law := ci_9 _ (List.mem_of_getElem? (i := 16) rfl)
abbrev wd_209 : Cond := Cond.methodLink RL 37 yX12_head
theorem mw_209 : wd_209 ∈ wsL_law := ci_9 _ (List.mem_of_getElem? (i := 17) rfl)
abbrev wd_210 : Cond := Cond.instanceMethod yX12_head
theorem mw_210 : wd_210 ∈ wsL_law := ci_9 _ (List.mem_of_getElem? (i := 18) rfl)
abbrev wd_211 : Cond := Cond.selects RX12 yX12_head yX12_head
theorem mw_211 : wd_211 ∈ wsL_law := ci_9 _ (List.mem_of_getElem? (i := 19) rfl)
abbrev wd_212 : Cond := Cond.code yX12_head cX12_head 5 (some .int)
theorem mw_212 : wd_212 ∈ wsL_law := ci_9 _ (List.mem_of_getElem? (i := 20) rfl)
abbrev wd_213 : Cond := Cond.methodLink RL 38 yX11_picture
theorem mw_213 : wd_213 ∈ wsL_law := ci_9 _ (List.mem_of_getElem? (i := 21) rfl)
abbrev wd_214 : Cond := Cond.instanceMethod yX11_picture
theorem mw_214 : wd_214 ∈ wsL_law := ci_9 _ (List.mem_of_getElem? (i := 22) rfl)
abbrev wd_215 : Cond := Cond.selects RX11 yX11_picture yX11_picture
theorem mw_215 : wd_215 ∈ wsL_law := ci_9 _ (List.mem_of_getElem? (i := 23) rfl)
abbrev wd_216 : Cond := Cond.code yX11_picture cX11_picture 1 (some .int)
theorem mw_216 : wd_216 ∈ wsL_law := ci_10 _ (List.mem_of_getElem? (i := 0) rfl)
abbrev wd_217 : Cond := Cond.classLink RX11 88 RX7
theorem mw_217 : wd_217 ∈ wsL_law := ci_10 _ (List.mem_of_getElem? (i := 1) rfl)
abbrev wd_218 : Cond := Cond.instantiable RX7 8
theorem mw_218 : wd_218 ∈ wsL_law := ci_10 _ (List.mem_of_getElem? (i := 2) rfl)
abbrev wd_219 : Cond := Cond.initialized RX7
theorem mw_219 : wd_219 ∈ wsL_law := ci_10 _ (List.mem_of_getElem? (i := 3) rfl)
abbrev wd_220 : Cond := Cond.methodLink RX11 90 yX7_init
theorem mw_220 : wd_220 ∈ wsL_law := ci_10 _ (List.mem_of_getElem? (i := 4) rfl)
abbrev wd_221 : Cond := Cond.instanceMethod yX7_init
theorem mw_221 : wd_221 ∈ wsL_law := ci_10 _ (List.mem_of_getElem? (i := 5) rfl)
abbrev wd_222 : Cond := Cond.code yX7_init cX7_init 2 none
theorem mw_222 : wd_222 ∈ wsL_law := ci_10 _ (List.mem_of_getElem? (i := 6) rfl)
abbrev wd_223 : Cond := Cond.fieldLink RX7 9 "PageOne$Picture" "widths" "[I"
theorem mw_223 : wd_223 ∈ wsL_law := ci_10 _ (List.mem_of_getElem? (i := 7) rfl)
abbrev wd_224 : Cond := Cond.fieldLink RX7 15 "PageOne$Picture" "heights" "[I"
theorem mw_224 : wd_224 ∈ wsL_law := ci_10 _ (List.mem_of_getElem? (i := 8) rfl)
abbrev wd_225 : Cond := Cond.fieldLink RX7 18 "PageOne$Picture" "sizes" "I"
theorem mw_225 : wd_225 ∈ wsL_law := ci_10 _ (List.mem_of_getElem? (i := 9) rfl)
abbrev wd_226 : Cond := Cond.methodLink RX7 3 yX4_init
theorem mw_226 : wd_226 ∈ wsL_law := ci_10 _ (List.mem_of_getElem? (i := 10) rfl)
abbrev wd_227 : Cond := Cond.methodLink RL 42 yX12_picture
theorem mw_227 : wd_227 ∈ wsL_law := ci_10 _ (List.mem_of_getElem? (i := 11) rfl)
abbrev wd_228 : Cond := Cond.instanceMethod yX12_picture
theorem mw_228 : wd_228 ∈ wsL_law := ci_10 _ (List.mem_of_getElem? (i := 12) rfl)
abbrev wd_229 : Cond := Cond.selects RX12 yX12_picture yX12_picture
theorem mw_229 : wd_229 ∈ wsL_law := ci_10 _ (List.mem_of_getElem? (i := 13) rfl)
abbrev wd_230 : Cond := Cond.code yX12_picture cX12_picture 1 (some .int)
theorem mw_230 : wd_230 ∈ wsL_law := ci_10 _ (List.mem_of_getElem? (i := 14) rfl)
abbrev wd_231 : Cond := Cond.methodLink RL 43 yX11_size
theorem mw_231 : wd_231 ∈ wsL_law := ci_10 _ (List.mem_of_getElem? (i := 15) rfl)
abbrev wd_232 : Cond := Cond.instanceMethod yX11_size
theorem mw_232 : wd_232 ∈ wsL_law := ci_10 _ (List.mem_of_getElem? (i := 16) rfl)
abbrev wd_233 : Cond := Cond.selects RX11 yX11_size yX11_size
theorem mw_233 : wd_233 ∈ wsL_law := ci_10 _ (List.mem_of_getElem? (i := 17) rfl)
abbrev wd_234 : Cond := Cond.code yX11_size cX11_size 6 (some .int)
theorem mw_234 : wd_234 ∈ wsL_law := ci_10 _ (List.mem_of_getElem? (i := 18) rfl)
abbrev wd_235 : Cond := Cond.classLink RX11 88 "PageOne$Picture"
theorem mw_235 : wd_235 ∈ wsL_law := ci_10 _ (List.mem_of_getElem? (i := 19) rfl)
abbrev wd_236 : Cond := Cond.methodLink RX11 93 yX11_isSquare
theorem mw_236 : wd_236 ∈ wsL_law := ci_10 _ (List.mem_of_getElem? (i := 20) rfl)
abbrev wd_237 : Cond := Cond.static yX11_isSquare
theorem mw_237 : wd_237 ∈ wsL_law := ci_10 _ (List.mem_of_getElem? (i := 21) rfl)
abbrev wd_238 : Cond := Cond.code yX11_isSquare cX11_isSquare 2 (some .boolean)
theorem mw_238 : wd_238 ∈ wsL_law := ci_10 _ (List.mem_of_getElem? (i := 22) rfl)
abbrev wd_239 : Cond := Cond.methodLink RX11 97 yX7_takeSize
theorem mw_239 : wd_239 ∈ wsL_law := ci_10 _ (List.mem_of_getElem? (i := 23) rfl)
abbrev wd_240 : Cond := Cond.instanceMethod yX7_takeSize
theorem mw_240 : wd_240 ∈ wsL_law := ci_11 _ (List.mem_of_getElem? (i := 0) rfl)
abbrev wd_241 : Cond := Cond.selects RX7 yX7_takeSize yX7_takeSize
theorem mw_241 : wd_241 ∈ wsL_law := ci_11 _ (List.mem_of_getElem? (i := 1) rfl)
abbrev wd_242 : Cond := Cond.code yX7_takeSize cX7_takeSize 3 (some .int)
theorem mw_242 : wd_242 ∈ wsL_law := ci_11 _ (List.mem_of_getElem? (i := 2) rfl)
abbrev wd_243 : Cond := Cond.methodLink RL 46 yX12_size
theorem mw_243 : wd_243 ∈ wsL_law := ci_11 _ (List.mem_of_getElem? (i := 3) rfl)
abbrev wd_244 : Cond := Cond.instanceMethod yX12_size
theorem mw_244 : wd_244 ∈ wsL_law := ci_11 _ (List.mem_of_getElem? (i := 4) rfl)
abbrev wd_245 : Cond := Cond.selects RX12 yX12_size yX12_size
theorem mw_245 : wd_245 ∈ wsL_law := ci_11 _ (List.mem_of_getElem? (i := 5) rfl)
abbrev wd_246 : Cond := Cond.code yX12_size cX12_size 4 (some .int)
theorem mw_246 : wd_246 ∈ wsL_law := ci_11 _ (List.mem_of_getElem? (i := 6) rfl)
abbrev wd_247 : Cond := Cond.methodLink RL 47 yX11_paid
theorem mw_247 : wd_247 ∈ wsL_law := ci_11 _ (List.mem_of_getElem? (i := 7) rfl)
abbrev wd_248 : Cond := Cond.instanceMethod yX11_paid
theorem mw_248 : wd_248 ∈ wsL_law := ci_11 _ (List.mem_of_getElem? (i := 8) rfl)
abbrev wd_249 : Cond := Cond.selects RX11 yX11_paid yX11_paid
theorem mw_249 : wd_249 ∈ wsL_law := ci_11 _ (List.mem_of_getElem? (i := 9) rfl)
abbrev wd_250 : Cond := Cond.code yX11_paid cX11_paid 8 (some .int)
theorem mw_250 : wd_250 ∈ wsL_law := ci_11 _ (List.mem_of_getElem? (i := 10) rfl)
abbrev wd_251 : Cond := Cond.classLink RX11 104 RX6
theorem mw_251 : wd_251 ∈ wsL_law := ci_11 _ (List.mem_of_getElem? (i := 11) rfl)
abbrev wd_252 : Cond := Cond.instantiable RX6 9
theorem mw_252 : wd_252 ∈ wsL_law := ci_11 _ (List.mem_of_getElem? (i := 12) rfl)
abbrev wd_253 : Cond := Cond.initialized RX6
theorem mw_253 : wd_253 ∈ wsL_law := ci_11 _ (List.mem_of_getElem? (i := 13) rfl)
abbrev wd_254 : Cond := Cond.classLink RX11 106 RX8
theorem mw_254 : wd_254 ∈ wsL_law := ci_11 _ (List.mem_of_getElem? (i := 14) rfl)
abbrev wd_255 : Cond := Cond.instantiable RX8 6
theorem mw_255 : wd_255 ∈ wsL_law := ci_11 _ (List.mem_of_getElem? (i := 15) rfl)
abbrev wd_256 : Cond := Cond.initialized RX8
theorem mw_256 : wd_256 ∈ wsL_law := ci_11 _ (List.mem_of_getElem? (i := 16) rfl)
abbrev wd_257 : Cond := Cond.methodLink RX11 101 yX11_isBuyer
theorem mw_257 : wd_257 ∈ wsL_law := ci_11 _ (List.mem_of_getElem? (i := 17) rfl)
abbrev wd_258 : Cond := Cond.static yX11_isBuyer
theorem mw_258 : wd_258 ∈ wsL_law := ci_11 _ (List.mem_of_getElem? (i := 18) rfl)
abbrev wd_259 : Cond := Cond.code yX11_isBuyer cX11_isBuyer 1 (some .boolean)
theorem mw_259 : wd_259 ∈ wsL_law := ci_11 _ (List.mem_of_getElem? (i := 19) rfl)
abbrev wd_260 : Cond := Cond.methodLink RX11 108 yX8_init
theorem mw_260 : wd_260 ∈ wsL_law := ci_11 _ (List.mem_of_getElem? (i := 20) rfl)
abbrev wd_261 : Cond := Cond.instanceMethod yX8_init
theorem mw_261 : wd_261 ∈ wsL_law := ci_11 _ (List.mem_of_getElem? (i := 21) rfl)
abbrev wd_262 : Cond := Cond.code yX8_init cX8_init 7 none
theorem mw_262 : wd_262 ∈ wsL_law := ci_11 _ (List.mem_of_getElem? (i := 22) rfl)
abbrev wd_263 : Cond := Cond.methodLink RX8 3 objectInit
theorem mw_263 : wd_263 ∈ wsL_law := ci_11 _ (List.mem_of_getElem? (i := 23) rfl)
abbrev wd_264 : Cond := Cond.fieldLink RX8 9 "PageOne$Piece" "item" "LPageOne$Item;"
theorem mw_264 : wd_264 ∈ wsL_law := ci_12 _ (List.mem_of_getElem? (i := 0) rfl)
abbrev wd_265 : Cond := Cond.fieldLink RX8 15 "PageOne$Piece" "page" "I"
theorem mw_265 : wd_265 ∈ wsL_law := ci_12 _ (List.mem_of_getElem? (i := 1) rfl)
abbrev wd_266 : Cond := Cond.fieldLink RX8 19 "PageOne$Piece" "column" "I"
theorem mw_266 : wd_266 ∈ wsL_law := ci_12 _ (List.mem_of_getElem? (i := 2) rfl)
abbrev wd_267 : Cond := Cond.fieldLink RX8 22 "PageOne$Piece" "line" "I"
theorem mw_267 : wd_267 ∈ wsL_law := ci_12 _ (List.mem_of_getElem? (i := 3) rfl)
abbrev wd_268 : Cond := Cond.fieldLink RX8 25 "PageOne$Piece" "w" "I"
theorem mw_268 : wd_268 ∈ wsL_law := ci_12 _ (List.mem_of_getElem? (i := 4) rfl)
abbrev wd_269 : Cond := Cond.fieldLink RX8 28 "PageOne$Piece" "h" "I"
theorem mw_269 : wd_269 ∈ wsL_law := ci_12 _ (List.mem_of_getElem? (i := 5) rfl)
abbrev wd_270 : Cond := Cond.methodLink RX11 111 yX6_init
theorem mw_270 : wd_270 ∈ wsL_law := ci_12 _ (List.mem_of_getElem? (i := 6) rfl)
abbrev wd_271 : Cond := Cond.instanceMethod yX6_init
theorem mw_271 : wd_271 ∈ wsL_law := ci_12 _ (List.mem_of_getElem? (i := 7) rfl)
abbrev wd_272 : Cond := Cond.code yX6_init cX6_init 5 none
theorem mw_272 : wd_272 ∈ wsL_law := ci_12 _ (List.mem_of_getElem? (i := 8) rfl)
abbrev wd_273 : Cond := Cond.fieldLink RX6 9 "PageOne$Paid" "days" "[Z"
theorem mw_273 : wd_273 ∈ wsL_law := ci_12 _ (List.mem_of_getElem? (i := 9) rfl)
abbrev wd_274 : Cond := Cond.fieldLink RX6 15 "PageOne$Paid" "buyer" "I"
theorem mw_274 : wd_274 ∈ wsL_law := ci_12 _ (List.mem_of_getElem? (i := 10) rfl)
abbrev wd_275 : Cond := Cond.fieldLink RX6 19 "PageOne$Paid" "price" "I"
theorem mw_275 : wd_275 ∈ wsL_law := ci_12 _ (List.mem_of_getElem? (i := 11) rfl)
abbrev wd_276 : Cond := Cond.fieldLink RX6 22 "PageOne$Paid" "spot" "LPageOne$Piece;"
theorem mw_276 : wd_276 ∈ wsL_law := ci_12 _ (List.mem_of_getElem? (i := 12) rfl)
abbrev wd_277 : Cond := Cond.methodLink RX6 3 yX4_init
theorem mw_277 : wd_277 ∈ wsL_law := ci_12 _ (List.mem_of_getElem? (i := 13) rfl)
abbrev wd_278 : Cond := Cond.methodLink RL 51 yX12_paid
theorem mw_278 : wd_278 ∈ wsL_law := ci_12 _ (List.mem_of_getElem? (i := 14) rfl)
abbrev wd_279 : Cond := Cond.instanceMethod yX12_paid
theorem mw_279 : wd_279 ∈ wsL_law := ci_12 _ (List.mem_of_getElem? (i := 15) rfl)
abbrev wd_280 : Cond := Cond.selects RX12 yX12_paid yX12_paid
theorem mw_280 : wd_280 ∈ wsL_law := ci_12 _ (List.mem_of_getElem? (i := 16) rfl)
abbrev wd_281 : Cond := Cond.code yX12_paid cX12_paid 11 (some .int)
theorem mw_281 : wd_281 ∈ wsL_law := ci_12 _ (List.mem_of_getElem? (i := 17) rfl)
abbrev wd_282 : Cond := Cond.methodLink RX12 179 yX12_isBuyer
theorem mw_282 : wd_282 ∈ wsL_law := ci_12 _ (List.mem_of_getElem? (i := 18) rfl)
abbrev wd_283 : Cond := Cond.static yX12_isBuyer
theorem mw_283 : wd_283 ∈ wsL_law := ci_12 _ (List.mem_of_getElem? (i := 19) rfl)
abbrev wd_284 : Cond := Cond.code yX12_isBuyer cX12_isBuyer 1 (some .boolean)
theorem mw_284 : wd_284 ∈ wsL_law := ci_12 _ (List.mem_of_getElem? (i := 20) rfl)
abbrev wd_285 : Cond := Cond.methodLink RL 52 yX11_filler
theorem mw_285 : wd_285 ∈ wsL_law := ci_12 _ (List.mem_of_getElem? (i := 21) rfl)
abbrev wd_286 : Cond := Cond.instanceMethod yX11_filler
theorem mw_286 : wd_286 ∈ wsL_law := ci_12 _ (List.mem_of_getElem? (i := 22) rfl)
abbrev wd_287 : Cond := Cond.selects RX11 yX11_filler yX11_filler
theorem mw_287 : wd_287 ∈ wsL_law := ci_12 _ (List.mem_of_getElem? (i := 23) rfl)
abbrev wd_288 : Cond := Cond.code yX11_filler cX11_filler 3 (some .int)
theorem mw_288 : wd_288 ∈ wsL_law := ci_13 _ (List.mem_of_getElem? (i := 0) rfl)
abbrev wd_289 : Cond := Cond.classLink RX11 114 RX2
theorem mw_289 : wd_289 ∈ wsL_law := ci_13 _ (List.mem_of_getElem? (i := 1) rfl)
abbrev wd_290 : Cond := Cond.instantiable RX2 7
theorem mw_290 : wd_290 ∈ wsL_law := ci_13 _ (List.mem_of_getElem? (i := 2) rfl)
abbrev wd_291 : Cond := Cond.initialized RX2
theorem mw_291 : wd_291 ∈ wsL_law := ci_13 _ (List.mem_of_getElem? (i := 3) rfl)
abbrev wd_292 : Cond := Cond.methodLink RX11 116 yX2_init
theorem mw_292 : wd_292 ∈ wsL_law := ci_13 _ (List.mem_of_getElem? (i := 4) rfl)
abbrev wd_293 : Cond := Cond.instanceMethod yX2_init
theorem mw_293 : wd_293 ∈ wsL_law := ci_13 _ (List.mem_of_getElem? (i := 5) rfl)
abbrev wd_294 : Cond := Cond.code yX2_init cX2_init 4 none
theorem mw_294 : wd_294 ∈ wsL_law := ci_13 _ (List.mem_of_getElem? (i := 6) rfl)
abbrev wd_295 : Cond := Cond.fieldLink RX2 9 "PageOne$Filler" "least" "I"
theorem mw_295 : wd_295 ∈ wsL_law := ci_13 _ (List.mem_of_getElem? (i := 7) rfl)
abbrev wd_296 : Cond := Cond.fieldLink RX2 15 "PageOne$Filler" "most" "I"
theorem mw_296 : wd_296 ∈ wsL_law := ci_13 _ (List.mem_of_getElem? (i := 8) rfl)
abbrev wd_297 : Cond := Cond.methodLink RX2 3 yX4_init
theorem mw_297 : wd_297 ∈ wsL_law := ci_13 _ (List.mem_of_getElem? (i := 9) rfl)
abbrev wd_298 : Cond := Cond.methodLink RL 55 yX12_filler
theorem mw_298 : wd_298 ∈ wsL_law := ci_13 _ (List.mem_of_getElem? (i := 10) rfl)
abbrev wd_299 : Cond := Cond.instanceMethod yX12_filler
theorem mw_299 : wd_299 ∈ wsL_law := ci_13 _ (List.mem_of_getElem? (i := 11) rfl)
abbrev wd_300 : Cond := Cond.selects RX12 yX12_filler yX12_filler
theorem mw_300 : wd_300 ∈ wsL_law := ci_13 _ (List.mem_of_getElem? (i := 12) rfl)
abbrev wd_301 : Cond := Cond.code yX12_filler cX12_filler 4 (some .int)
theorem mw_301 : wd_301 ∈ wsL_law := ci_13 _ (List.mem_of_getElem? (i := 13) rfl)
abbrev wd_302 : Cond := Cond.methodLink RL 56 yX11_notice
theorem mw_302 : wd_302 ∈ wsL_law := ci_13 _ (List.mem_of_getElem? (i := 14) rfl)
abbrev wd_303 : Cond := Cond.instanceMethod yX11_notice
theorem mw_303 : wd_303 ∈ wsL_law := ci_13 _ (List.mem_of_getElem? (i := 15) rfl)
abbrev wd_304 : Cond := Cond.selects RX11 yX11_notice yX11_notice
theorem mw_304 : wd_304 ∈ wsL_law := ci_13 _ (List.mem_of_getElem? (i := 16) rfl)
abbrev wd_305 : Cond := Cond.code yX11_notice cX11_notice 4 (some .int)
theorem mw_305 : wd_305 ∈ wsL_law := ci_13 _ (List.mem_of_getElem? (i := 17) rfl)
abbrev wd_306 : Cond := Cond.classLink RX11 119 "PageOne$Notice"
theorem mw_306 : wd_306 ∈ wsL_law := ci_13 _ (List.mem_of_getElem? (i := 18) rfl)
abbrev wd_307 : Cond := Cond.classLink RX11 119 RX5
theorem mw_307 : wd_307 ∈ wsL_law := ci_13 _ (List.mem_of_getElem? (i := 19) rfl)
abbrev wd_308 : Cond := Cond.instantiable RX5 7
theorem mw_308 : wd_308 ∈ wsL_law := ci_13 _ (List.mem_of_getElem? (i := 20) rfl)
abbrev wd_309 : Cond := Cond.initialized RX5
theorem mw_309 : wd_309 ∈ wsL_law := ci_13 _ (List.mem_of_getElem? (i := 21) rfl)
abbrev wd_310 : Cond := Cond.methodLink RX11 121 yX11_firstPrinting
theorem mw_310 : wd_310 ∈ wsL_law := ci_13 _ (List.mem_of_getElem? (i := 22) rfl)
abbrev wd_311 : Cond := Cond.instanceMethod yX11_firstPrinting
theorem mw_311 : wd_311 ∈ wsL_law := ci_13 _ (List.mem_of_getElem? (i := 23) rfl)
abbrev wd_312 : Cond := Cond.selects RX11 yX11_firstPrinting yX11_firstPrinting
theorem mw_312 : wd_312 ∈ wsL_law := ci_14 _ (List.mem_of_getElem? (i := 0) rfl)
abbrev wd_313 : Cond := Cond.code yX11_firstPrinting cX11_firstPrinting 5 (some .int)
theorem mw_313 : wd_313 ∈ wsL_law := ci_14 _ (List.mem_of_getElem? (i := 1) rfl)
abbrev wd_314 : Cond := Cond.fieldLink RX11 382 "PageOne$Item" "first" "[I"
theorem mw_314 : wd_314 ∈ wsL_law := ci_14 _ (List.mem_of_getElem? (i := 2) rfl)
abbrev wd_315 : Cond := Cond.methodLink RX11 372 yX11_isFresh
theorem mw_315 : wd_315 ∈ wsL_law := ci_14 _ (List.mem_of_getElem? (i := 3) rfl)
abbrev wd_316 : Cond := Cond.instanceMethod yX11_isFresh
theorem mw_316 : wd_316 ∈ wsL_law := ci_14 _ (List.mem_of_getElem? (i := 4) rfl)
abbrev wd_317 : Cond := Cond.selects RX11 yX11_isFresh yX11_isFresh
theorem mw_317 : wd_317 ∈ wsL_law := ci_14 _ (List.mem_of_getElem? (i := 5) rfl)
abbrev wd_318 : Cond := Cond.code yX11_isFresh cX11_isFresh 2 (some .boolean)
theorem mw_318 : wd_318 ∈ wsL_law := ci_14 _ (List.mem_of_getElem? (i := 6) rfl)
abbrev wd_319 : Cond := Cond.fieldLink RX11 210 "PageOne$Sheet" "day" "I"
theorem mw_319 : wd_319 ∈ wsL_law := ci_14 _ (List.mem_of_getElem? (i := 7) rfl)
abbrev wd_320 : Cond := Cond.fieldLink RX11 213 "PageOne$Sheet" "edition" "I"
theorem mw_320 : wd_320 ∈ wsL_law := ci_14 _ (List.mem_of_getElem? (i := 8) rfl)
abbrev wd_321 : Cond := Cond.methodLink RX11 272 yX11_hasPlate
theorem mw_321 : wd_321 ∈ wsL_law := ci_14 _ (List.mem_of_getElem? (i := 9) rfl)
abbrev wd_322 : Cond := Cond.instanceMethod yX11_hasPlate
theorem mw_322 : wd_322 ∈ wsL_law := ci_14 _ (List.mem_of_getElem? (i := 10) rfl)
abbrev wd_323 : Cond := Cond.selects RX11 yX11_hasPlate yX11_hasPlate
theorem mw_323 : wd_323 ∈ wsL_law := ci_14 _ (List.mem_of_getElem? (i := 11) rfl)
abbrev wd_324 : Cond := Cond.code yX11_hasPlate cX11_hasPlate 2 (some .boolean)
theorem mw_324 : wd_324 ∈ wsL_law := ci_14 _ (List.mem_of_getElem? (i := 12) rfl)
abbrev wd_325 : Cond := Cond.methodLink RX11 391 yX9_spotOf
theorem mw_325 : wd_325 ∈ wsL_law := ci_14 _ (List.mem_of_getElem? (i := 13) rfl)
abbrev wd_326 : Cond := Cond.instanceMethod yX9_spotOf
theorem mw_326 : wd_326 ∈ wsL_law := ci_14 _ (List.mem_of_getElem? (i := 14) rfl)
abbrev wd_327 : Cond := Cond.selects RX9 yX9_spotOf yX9_spotOf
theorem mw_327 : wd_327 ∈ wsL_law := ci_14 _ (List.mem_of_getElem? (i := 15) rfl)
abbrev wd_328 : Cond := Cond.code yX9_spotOf cX9_spotOf 4 (some .int)
theorem mw_328 : wd_328 ∈ wsL_law := ci_14 _ (List.mem_of_getElem? (i := 16) rfl)
abbrev wd_329 : Cond := Cond.methodLink RX9 60 yX9_at
theorem mw_329 : wd_329 ∈ wsL_law := ci_14 _ (List.mem_of_getElem? (i := 17) rfl)
abbrev wd_330 : Cond := Cond.instanceMethod yX9_at
theorem mw_330 : wd_330 ∈ wsL_law := ci_14 _ (List.mem_of_getElem? (i := 18) rfl)
abbrev wd_331 : Cond := Cond.selects RX9 yX9_at yX9_at
theorem mw_331 : wd_331 ∈ wsL_law := ci_14 _ (List.mem_of_getElem? (i := 19) rfl)
abbrev wd_332 : Cond := Cond.code yX9_at cX9_at 3 (some .int)
theorem mw_332 : wd_332 ∈ wsL_law := ci_14 _ (List.mem_of_getElem? (i := 20) rfl)
abbrev wd_333 : Cond := Cond.methodLink RX11 384 yX11_plateFact
theorem mw_333 : wd_333 ∈ wsL_law := ci_14 _ (List.mem_of_getElem? (i := 21) rfl)
abbrev wd_334 : Cond := Cond.instanceMethod yX11_plateFact
theorem mw_334 : wd_334 ∈ wsL_law := ci_14 _ (List.mem_of_getElem? (i := 22) rfl)
abbrev wd_335 : Cond := Cond.selects RX11 yX11_plateFact yX11_plateFact
theorem mw_335 : wd_335 ∈ wsL_law := ci_14 _ (List.mem_of_getElem? (i := 23) rfl)
abbrev wd_336 : Cond := Cond.code yX11_plateFact cX11_plateFact 4 (some .int)
theorem mw_336 : wd_336 ∈ wsL_law := ci_15 _ (List.mem_of_getElem? (i := 0) rfl)
abbrev wd_337 : Cond := Cond.methodLink RX11 125 yX11_hasNotice
theorem mw_337 : wd_337 ∈ wsL_law := ci_15 _ (List.mem_of_getElem? (i := 1) rfl)
abbrev wd_338 : Cond := Cond.instanceMethod yX11_hasNotice
theorem mw_338 : wd_338 ∈ wsL_law := ci_15 _ (List.mem_of_getElem? (i := 2) rfl)
abbrev wd_339 : Cond := Cond.selects RX11 yX11_hasNotice yX11_hasNotice
theorem mw_339 : wd_339 ∈ wsL_law := ci_15 _ (List.mem_of_getElem? (i := 3) rfl)
abbrev wd_340 : Cond := Cond.code yX11_hasNotice cX11_hasNotice 5 (some .boolean)
theorem mw_340 : wd_340 ∈ wsL_law := ci_15 _ (List.mem_of_getElem? (i := 4) rfl)
abbrev wd_341 : Cond := Cond.fieldLink RX11 288 "PageOne$Notice" "mended" "LPageOne$Item;"
theorem mw_341 : wd_341 ∈ wsL_law := ci_15 _ (List.mem_of_getElem? (i := 5) rfl)
abbrev wd_342 : Cond := Cond.methodLink RX11 129 yX5_init
theorem mw_342 : wd_342 ∈ wsL_law := ci_15 _ (List.mem_of_getElem? (i := 6) rfl)
abbrev wd_343 : Cond := Cond.instanceMethod yX5_init
theorem mw_343 : wd_343 ∈ wsL_law := ci_15 _ (List.mem_of_getElem? (i := 7) rfl)
abbrev wd_344 : Cond := Cond.code yX5_init cX5_init 4 none
theorem mw_344 : wd_344 ∈ wsL_law := ci_15 _ (List.mem_of_getElem? (i := 8) rfl)
abbrev wd_345 : Cond := Cond.fieldLink RX5 9 "PageOne$Notice" "mended" "LPageOne$Item;"
theorem mw_345 : wd_345 ∈ wsL_law := ci_15 _ (List.mem_of_getElem? (i := 9) rfl)
abbrev wd_346 : Cond := Cond.fieldLink RX5 15 "PageOne$Notice" "h" "I"
theorem mw_346 : wd_346 ∈ wsL_law := ci_15 _ (List.mem_of_getElem? (i := 10) rfl)
abbrev wd_347 : Cond := Cond.methodLink RX5 3 yX4_init
theorem mw_347 : wd_347 ∈ wsL_law := ci_15 _ (List.mem_of_getElem? (i := 11) rfl)
abbrev wd_348 : Cond := Cond.methodLink RL 59 yX12_notice
theorem mw_348 : wd_348 ∈ wsL_law := ci_15 _ (List.mem_of_getElem? (i := 12) rfl)
abbrev wd_349 : Cond := Cond.instanceMethod yX12_notice
theorem mw_349 : wd_349 ∈ wsL_law := ci_15 _ (List.mem_of_getElem? (i := 13) rfl)
abbrev wd_350 : Cond := Cond.selects RX12 yX12_notice yX12_notice
theorem mw_350 : wd_350 ∈ wsL_law := ci_15 _ (List.mem_of_getElem? (i := 14) rfl)
abbrev wd_351 : Cond := Cond.code yX12_notice cX12_notice 4 (some .int)
theorem mw_351 : wd_351 ∈ wsL_law := ci_15 _ (List.mem_of_getElem? (i := 15) rfl)
abbrev wd_352 : Cond := Cond.methodLink RX12 182 yX12_printed
theorem mw_352 : wd_352 ∈ wsL_law := ci_15 _ (List.mem_of_getElem? (i := 16) rfl)
abbrev wd_353 : Cond := Cond.instanceMethod yX12_printed
theorem mw_353 : wd_353 ∈ wsL_law := ci_15 _ (List.mem_of_getElem? (i := 17) rfl)
abbrev wd_354 : Cond := Cond.selects RX12 yX12_printed yX12_printed
theorem mw_354 : wd_354 ∈ wsL_law := ci_15 _ (List.mem_of_getElem? (i := 18) rfl)
abbrev wd_355 : Cond := Cond.code yX12_printed cX12_printed 4 (some .int)
theorem mw_355 : wd_355 ∈ wsL_law := ci_15 _ (List.mem_of_getElem? (i := 19) rfl)
abbrev wd_356 : Cond := Cond.fieldLink RX12 206 "PageOneModel" "day" "I"
theorem mw_356 : wd_356 ∈ wsL_law := ci_15 _ (List.mem_of_getElem? (i := 20) rfl)
abbrev wd_357 : Cond := Cond.fieldLink RX12 257 "PageOneModel" "edition" "I"
theorem mw_357 : wd_357 ∈ wsL_law := ci_15 _ (List.mem_of_getElem? (i := 21) rfl)
abbrev wd_358 : Cond := Cond.methodLink RX12 260 yX12_isNow
theorem mw_358 : wd_358 ∈ wsL_law := ci_15 _ (List.mem_of_getElem? (i := 22) rfl)
abbrev wd_359 : Cond := Cond.instanceMethod yX12_isNow
theorem mw_359 : wd_359 ∈ wsL_law := ci_15 _ (List.mem_of_getElem? (i := 23) rfl)
abbrev wd_360 : Cond := Cond.selects RX12 yX12_isNow yX12_isNow
theorem mw_360 : wd_360 ∈ wsL_law := ci_16 _ (List.mem_of_getElem? (i := 0) rfl)
abbrev wd_361 : Cond := Cond.code yX12_isNow cX12_isNow 2 (some .boolean)
theorem mw_361 : wd_361 ∈ wsL_law := ci_16 _ (List.mem_of_getElem? (i := 1) rfl)
abbrev wd_362 : Cond := Cond.methodLink RL 60 yX11_rival
theorem mw_362 : wd_362 ∈ wsL_law := ci_16 _ (List.mem_of_getElem? (i := 2) rfl)
abbrev wd_363 : Cond := Cond.instanceMethod yX11_rival
theorem mw_363 : wd_363 ∈ wsL_law := ci_16 _ (List.mem_of_getElem? (i := 3) rfl)
abbrev wd_364 : Cond := Cond.selects RX11 yX11_rival yX11_rival
theorem mw_364 : wd_364 ∈ wsL_law := ci_16 _ (List.mem_of_getElem? (i := 4) rfl)
abbrev wd_365 : Cond := Cond.code yX11_rival cX11_rival 3 (some .boolean)
theorem mw_365 : wd_365 ∈ wsL_law := ci_16 _ (List.mem_of_getElem? (i := 5) rfl)
abbrev wd_366 : Cond := Cond.methodLink RX11 132 yX11_areRivals
theorem mw_366 : wd_366 ∈ wsL_law := ci_16 _ (List.mem_of_getElem? (i := 6) rfl)
abbrev wd_367 : Cond := Cond.instanceMethod yX11_areRivals
theorem mw_367 : wd_367 ∈ wsL_law := ci_16 _ (List.mem_of_getElem? (i := 7) rfl)
abbrev wd_368 : Cond := Cond.selects RX11 yX11_areRivals yX11_areRivals
theorem mw_368 : wd_368 ∈ wsL_law := ci_16 _ (List.mem_of_getElem? (i := 8) rfl)
abbrev wd_369 : Cond := Cond.code yX11_areRivals cX11_areRivals 3 (some .boolean)
theorem mw_369 : wd_369 ∈ wsL_law := ci_16 _ (List.mem_of_getElem? (i := 9) rfl)
abbrev wd_370 : Cond := Cond.methodLink RL 63 yX12_rival
theorem mw_370 : wd_370 ∈ wsL_law := ci_16 _ (List.mem_of_getElem? (i := 10) rfl)
abbrev wd_371 : Cond := Cond.instanceMethod yX12_rival
theorem mw_371 : wd_371 ∈ wsL_law := ci_16 _ (List.mem_of_getElem? (i := 11) rfl)
abbrev wd_372 : Cond := Cond.selects RX12 yX12_rival yX12_rival
theorem mw_372 : wd_372 ∈ wsL_law := ci_16 _ (List.mem_of_getElem? (i := 12) rfl)
abbrev wd_373 : Cond := Cond.code yX12_rival cX12_rival 3 (some .boolean)
theorem mw_373 : wd_373 ∈ wsL_law := ci_16 _ (List.mem_of_getElem? (i := 13) rfl)
abbrev wd_374 : Cond := Cond.methodLink RL 64 yX11_names
theorem mw_374 : wd_374 ∈ wsL_law := ci_16 _ (List.mem_of_getElem? (i := 14) rfl)
abbrev wd_375 : Cond := Cond.instanceMethod yX11_names
theorem mw_375 : wd_375 ∈ wsL_law := ci_16 _ (List.mem_of_getElem? (i := 15) rfl)
abbrev wd_376 : Cond := Cond.selects RX11 yX11_names yX11_names
theorem mw_376 : wd_376 ∈ wsL_law := ci_16 _ (List.mem_of_getElem? (i := 16) rfl)
abbrev wd_377 : Cond := Cond.code yX11_names cX11_names 5 (some .boolean)
theorem mw_377 : wd_377 ∈ wsL_law := ci_16 _ (List.mem_of_getElem? (i := 17) rfl)
abbrev wd_378 : Cond := Cond.fieldLink RX11 135 "PageOne$Story" "named" "[Z"
theorem mw_378 : wd_378 ∈ wsL_law := ci_16 _ (List.mem_of_getElem? (i := 18) rfl)
abbrev wd_379 : Cond := Cond.methodLink RL 67 yX12_names
theorem mw_379 : wd_379 ∈ wsL_law := ci_16 _ (List.mem_of_getElem? (i := 19) rfl)
abbrev wd_380 : Cond := Cond.instanceMethod yX12_names
theorem mw_380 : wd_380 ∈ wsL_law := ci_16 _ (List.mem_of_getElem? (i := 20) rfl)
abbrev wd_381 : Cond := Cond.selects RX12 yX12_names yX12_names
theorem mw_381 : wd_381 ∈ wsL_law := ci_16 _ (List.mem_of_getElem? (i := 21) rfl)
abbrev wd_382 : Cond := Cond.code yX12_names cX12_names 3 (some .boolean)
theorem mw_382 : wd_382 ∈ wsL_law := ci_16 _ (List.mem_of_getElem? (i := 22) rfl)
abbrev wd_383 : Cond := Cond.methodLink RL 68 yX11_put
theorem mw_383 : wd_383 ∈ wsL_law := ci_16 _ (List.mem_of_getElem? (i := 23) rfl)
abbrev wd_384 : Cond := Cond.instanceMethod yX11_put
theorem mw_384 : wd_384 ∈ wsL_law := ci_17 _ (List.mem_of_getElem? (i := 0) rfl)
abbrev wd_385 : Cond := Cond.selects RX11 yX11_put yX11_put
theorem mw_385 : wd_385 ∈ wsL_law := ci_17 _ (List.mem_of_getElem? (i := 1) rfl)
abbrev wd_386 : Cond := Cond.code yX11_put cX11_put 8 (some .int)
theorem mw_386 : wd_386 ∈ wsL_law := ci_17 _ (List.mem_of_getElem? (i := 2) rfl)
abbrev wd_387 : Cond := Cond.instantiable RX0 4
theorem mw_387 : wd_387 ∈ wsL_law := ci_17 _ (List.mem_of_getElem? (i := 3) rfl)
abbrev wd_388 : Cond := Cond.initialized RX0
theorem mw_388 : wd_388 ∈ wsL_law := ci_17 _ (List.mem_of_getElem? (i := 4) rfl)
abbrev wd_389 : Cond := Cond.fieldLink RX11 170 "PageOne$Item" "count" "I"
theorem mw_389 : wd_389 ∈ wsL_law := ci_17 _ (List.mem_of_getElem? (i := 5) rfl)
abbrev wd_390 : Cond := Cond.methodLink RX11 138 yX11_canAct
theorem mw_390 : wd_390 ∈ wsL_law := ci_17 _ (List.mem_of_getElem? (i := 6) rfl)
abbrev wd_391 : Cond := Cond.instanceMethod yX11_canAct
theorem mw_391 : wd_391 ∈ wsL_law := ci_17 _ (List.mem_of_getElem? (i := 7) rfl)
abbrev wd_392 : Cond := Cond.selects RX11 yX11_canAct yX11_canAct
theorem mw_392 : wd_392 ∈ wsL_law := ci_17 _ (List.mem_of_getElem? (i := 8) rfl)
abbrev wd_393 : Cond := Cond.code yX11_canAct cX11_canAct 1 (some .boolean)
theorem mw_393 : wd_393 ∈ wsL_law := ci_17 _ (List.mem_of_getElem? (i := 9) rfl)
abbrev wd_394 : Cond := Cond.methodLink RX11 142 ⟨"PageOne$Item", "columnsBy", "(I)I"⟩
theorem mw_394 : wd_394 ∈ wsL_law := ci_17 _ (List.mem_of_getElem? (i := 10) rfl)
abbrev wd_395 : Cond := Cond.sameMethod "PageOne$Item" "PageOne$Item" "columnsBy" "(I)I"
theorem mw_395 : wd_395 ∈ wsL_law := ci_17 _ (List.mem_of_getElem? (i := 11) rfl)
abbrev wd_396 : Cond := Cond.selects RX2 ⟨"PageOne$Item", "columnsBy", "(I)I"⟩ yX4_columnsBy
theorem mw_396 : wd_396 ∈ wsL_law := ci_17 _ (List.mem_of_getElem? (i := 12) rfl)
abbrev wd_397 : Cond := Cond.instanceMethod yX4_columnsBy
theorem mw_397 : wd_397 ∈ wsL_law := ci_17 _ (List.mem_of_getElem? (i := 13) rfl)
abbrev wd_398 : Cond := Cond.code yX4_columnsBy cX4_columnsBy 2 (some .int)
theorem mw_398 : wd_398 ∈ wsL_law := ci_17 _ (List.mem_of_getElem? (i := 14) rfl)
abbrev wd_399 : Cond := Cond.instanceMethod ⟨"PageOne$Item", "columnsBy", "(I)I"⟩
theorem mw_399 : wd_399 ∈ wsL_law := ci_17 _ (List.mem_of_getElem? (i := 15) rfl)
abbrev wd_400 : Cond := Cond.selects RX3 ⟨"PageOne$Item", "columnsBy", "(I)I"⟩ yX3_columnsBy
theorem mw_400 : wd_400 ∈ wsL_law := ci_17 _ (List.mem_of_getElem? (i := 16) rfl)
abbrev wd_401 : Cond := Cond.instanceMethod yX3_columnsBy
theorem mw_401 : wd_401 ∈ wsL_law := ci_17 _ (List.mem_of_getElem? (i := 17) rfl)
abbrev wd_402 : Cond := Cond.code yX3_columnsBy cX3_columnsBy 2 (some .int)
theorem mw_402 : wd_402 ∈ wsL_law := ci_17 _ (List.mem_of_getElem? (i := 18) rfl)
abbrev wd_403 : Cond := Cond.selects RX5 ⟨"PageOne$Item", "columnsBy", "(I)I"⟩ yX4_columnsBy
theorem mw_403 : wd_403 ∈ wsL_law := ci_17 _ (List.mem_of_getElem? (i := 19) rfl)
abbrev wd_404 : Cond := Cond.selects RX6 ⟨"PageOne$Item", "columnsBy", "(I)I"⟩ yX6_columnsBy
theorem mw_404 : wd_404 ∈ wsL_law := ci_17 _ (List.mem_of_getElem? (i := 20) rfl)
abbrev wd_405 : Cond := Cond.instanceMethod yX6_columnsBy
theorem mw_405 : wd_405 ∈ wsL_law := ci_17 _ (List.mem_of_getElem? (i := 21) rfl)
abbrev wd_406 : Cond := Cond.code yX6_columnsBy cX6_columnsBy 2 (some .int)
theorem mw_406 : wd_406 ∈ wsL_law := ci_17 _ (List.mem_of_getElem? (i := 22) rfl)
abbrev wd_407 : Cond := Cond.fieldLink RX6 26 "PageOne$Piece" "w" "I"
theorem mw_407 : wd_407 ∈ wsL_law := ci_17 _ (List.mem_of_getElem? (i := 23) rfl)
abbrev wd_408 : Cond := Cond.selects RX7 ⟨"PageOne$Item", "columnsBy", "(I)I"⟩ yX7_columnsBy
theorem mw_408 : wd_408 ∈ wsL_law := ci_18 _ (List.mem_of_getElem? (i := 0) rfl)
abbrev wd_409 : Cond := Cond.instanceMethod yX7_columnsBy
theorem mw_409 : wd_409 ∈ wsL_law := ci_18 _ (List.mem_of_getElem? (i := 1) rfl)
abbrev wd_410 : Cond := Cond.code yX7_columnsBy cX7_columnsBy 2 (some .int)
theorem mw_410 : wd_410 ∈ wsL_law := ci_18 _ (List.mem_of_getElem? (i := 2) rfl)
abbrev wd_411 : Cond := Cond.selects RX10 ⟨"PageOne$Item", "columnsBy", "(I)I"⟩ yX4_columnsBy
theorem mw_411 : wd_411 ∈ wsL_law := ci_18 _ (List.mem_of_getElem? (i := 3) rfl)
abbrev wd_412 : Cond := Cond.methodLink RX11 145 ⟨"PageOne$Item", "linesBy", "(I)I"⟩
theorem mw_412 : wd_412 ∈ wsL_law := ci_18 _ (List.mem_of_getElem? (i := 4) rfl)
abbrev wd_413 : Cond := Cond.sameMethod "PageOne$Item" "PageOne$Item" "linesBy" "(I)I"
theorem mw_413 : wd_413 ∈ wsL_law := ci_18 _ (List.mem_of_getElem? (i := 5) rfl)
abbrev wd_414 : Cond := Cond.selects RX2 ⟨"PageOne$Item", "linesBy", "(I)I"⟩ yX2_linesBy
theorem mw_414 : wd_414 ∈ wsL_law := ci_18 _ (List.mem_of_getElem? (i := 6) rfl)
abbrev wd_415 : Cond := Cond.instanceMethod yX2_linesBy
theorem mw_415 : wd_415 ∈ wsL_law := ci_18 _ (List.mem_of_getElem? (i := 7) rfl)
abbrev wd_416 : Cond := Cond.code yX2_linesBy cX2_linesBy 2 (some .int)
theorem mw_416 : wd_416 ∈ wsL_law := ci_18 _ (List.mem_of_getElem? (i := 8) rfl)
abbrev wd_417 : Cond := Cond.selects RX3 ⟨"PageOne$Item", "linesBy", "(I)I"⟩ yX3_linesBy
theorem mw_417 : wd_417 ∈ wsL_law := ci_18 _ (List.mem_of_getElem? (i := 9) rfl)
abbrev wd_418 : Cond := Cond.instanceMethod yX3_linesBy
theorem mw_418 : wd_418 ∈ wsL_law := ci_18 _ (List.mem_of_getElem? (i := 10) rfl)
abbrev wd_419 : Cond := Cond.code yX3_linesBy cX3_linesBy 2 (some .int)
theorem mw_419 : wd_419 ∈ wsL_law := ci_18 _ (List.mem_of_getElem? (i := 11) rfl)
abbrev wd_420 : Cond := Cond.selects RX5 ⟨"PageOne$Item", "linesBy", "(I)I"⟩ yX5_linesBy
theorem mw_420 : wd_420 ∈ wsL_law := ci_18 _ (List.mem_of_getElem? (i := 12) rfl)
abbrev wd_421 : Cond := Cond.instanceMethod yX5_linesBy
theorem mw_421 : wd_421 ∈ wsL_law := ci_18 _ (List.mem_of_getElem? (i := 13) rfl)
abbrev wd_422 : Cond := Cond.code yX5_linesBy cX5_linesBy 2 (some .int)
theorem mw_422 : wd_422 ∈ wsL_law := ci_18 _ (List.mem_of_getElem? (i := 14) rfl)
abbrev wd_423 : Cond := Cond.selects RX6 ⟨"PageOne$Item", "linesBy", "(I)I"⟩ yX6_linesBy
theorem mw_423 : wd_423 ∈ wsL_law := ci_18 _ (List.mem_of_getElem? (i := 15) rfl)
abbrev wd_424 : Cond := Cond.instanceMethod yX6_linesBy
theorem mw_424 : wd_424 ∈ wsL_law := ci_18 _ (List.mem_of_getElem? (i := 16) rfl)
abbrev wd_425 : Cond := Cond.code yX6_linesBy cX6_linesBy 2 (some .int)
theorem mw_425 : wd_425 ∈ wsL_law := ci_18 _ (List.mem_of_getElem? (i := 17) rfl)
abbrev wd_426 : Cond := Cond.fieldLink RX6 31 "PageOne$Piece" "h" "I"
theorem mw_426 : wd_426 ∈ wsL_law := ci_18 _ (List.mem_of_getElem? (i := 18) rfl)
abbrev wd_427 : Cond := Cond.selects RX7 ⟨"PageOne$Item", "linesBy", "(I)I"⟩ yX7_linesBy
theorem mw_427 : wd_427 ∈ wsL_law := ci_18 _ (List.mem_of_getElem? (i := 19) rfl)
abbrev wd_428 : Cond := Cond.instanceMethod yX7_linesBy
theorem mw_428 : wd_428 ∈ wsL_law := ci_18 _ (List.mem_of_getElem? (i := 20) rfl)
abbrev wd_429 : Cond := Cond.code yX7_linesBy cX7_linesBy 2 (some .int)
theorem mw_429 : wd_429 ∈ wsL_law := ci_18 _ (List.mem_of_getElem? (i := 21) rfl)
abbrev wd_430 : Cond := Cond.selects RX10 ⟨"PageOne$Item", "linesBy", "(I)I"⟩ yX10_linesBy
theorem mw_430 : wd_430 ∈ wsL_law := ci_18 _ (List.mem_of_getElem? (i := 22) rfl)
abbrev wd_431 : Cond := Cond.instanceMethod yX10_linesBy
theorem mw_431 : wd_431 ∈ wsL_law := ci_18 _ (List.mem_of_getElem? (i := 23) rfl)
abbrev wd_432 : Cond := Cond.code yX10_linesBy cX10_linesBy 2 (some .int)
theorem mw_432 : wd_432 ∈ wsL_law := ci_19 _ (List.mem_of_getElem? (i := 0) rfl)
abbrev wd_433 : Cond := Cond.methodLink RX11 148 ⟨"PageOne$Item", "hasRoom", "()Z"⟩
theorem mw_433 : wd_433 ∈ wsL_law := ci_19 _ (List.mem_of_getElem? (i := 1) rfl)
abbrev wd_434 : Cond := Cond.sameMethod "PageOne$Item" "PageOne$Item" "hasRoom" "()Z"
theorem mw_434 : wd_434 ∈ wsL_law := ci_19 _ (List.mem_of_getElem? (i := 2) rfl)
abbrev wd_435 : Cond := Cond.selects RX2 ⟨"PageOne$Item", "hasRoom", "()Z"⟩ yX4_hasRoom
theorem mw_435 : wd_435 ∈ wsL_law := ci_19 _ (List.mem_of_getElem? (i := 3) rfl)
abbrev wd_436 : Cond := Cond.instanceMethod yX4_hasRoom
theorem mw_436 : wd_436 ∈ wsL_law := ci_19 _ (List.mem_of_getElem? (i := 4) rfl)
abbrev wd_437 : Cond := Cond.code yX4_hasRoom cX4_hasRoom 1 (some .boolean)
theorem mw_437 : wd_437 ∈ wsL_law := ci_19 _ (List.mem_of_getElem? (i := 5) rfl)
abbrev wd_438 : Cond := Cond.selects RX3 ⟨"PageOne$Item", "hasRoom", "()Z"⟩ yX4_hasRoom
theorem mw_438 : wd_438 ∈ wsL_law := ci_19 _ (List.mem_of_getElem? (i := 6) rfl)
abbrev wd_439 : Cond := Cond.selects RX5 ⟨"PageOne$Item", "hasRoom", "()Z"⟩ yX4_hasRoom
theorem mw_439 : wd_439 ∈ wsL_law := ci_19 _ (List.mem_of_getElem? (i := 7) rfl)
abbrev wd_440 : Cond := Cond.selects RX6 ⟨"PageOne$Item", "hasRoom", "()Z"⟩ yX4_hasRoom
theorem mw_440 : wd_440 ∈ wsL_law := ci_19 _ (List.mem_of_getElem? (i := 8) rfl)
abbrev wd_441 : Cond := Cond.selects RX7 ⟨"PageOne$Item", "hasRoom", "()Z"⟩ yX4_hasRoom
theorem mw_441 : wd_441 ∈ wsL_law := ci_19 _ (List.mem_of_getElem? (i := 9) rfl)
abbrev wd_442 : Cond := Cond.selects RX10 ⟨"PageOne$Item", "hasRoom", "()Z"⟩ yX4_hasRoom
theorem mw_442 : wd_442 ∈ wsL_law := ci_19 _ (List.mem_of_getElem? (i := 10) rfl)
abbrev wd_443 : Cond := Cond.methodLink RX11 151 yX9_isFree
theorem mw_443 : wd_443 ∈ wsL_law := ci_19 _ (List.mem_of_getElem? (i := 11) rfl)
abbrev wd_444 : Cond := Cond.instanceMethod yX9_isFree
theorem mw_444 : wd_444 ∈ wsL_law := ci_19 _ (List.mem_of_getElem? (i := 12) rfl)
abbrev wd_445 : Cond := Cond.selects RX9 yX9_isFree yX9_isFree
theorem mw_445 : wd_445 ∈ wsL_law := ci_19 _ (List.mem_of_getElem? (i := 13) rfl)
abbrev wd_446 : Cond := Cond.code yX9_isFree cX9_isFree 4 (some .boolean)
theorem mw_446 : wd_446 ∈ wsL_law := ci_19 _ (List.mem_of_getElem? (i := 14) rfl)
abbrev wd_447 : Cond := Cond.fieldLink RX9 42 "PageOne$Piece" "w" "I"
theorem mw_447 : wd_447 ∈ wsL_law := ci_19 _ (List.mem_of_getElem? (i := 15) rfl)
abbrev wd_448 : Cond := Cond.fieldLink RX9 47 "PageOne$Piece" "h" "I"
theorem mw_448 : wd_448 ∈ wsL_law := ci_19 _ (List.mem_of_getElem? (i := 16) rfl)
abbrev wd_449 : Cond := Cond.fieldLink RX9 54 "PageOne$Piece" "column" "I"
theorem mw_449 : wd_449 ∈ wsL_law := ci_19 _ (List.mem_of_getElem? (i := 17) rfl)
abbrev wd_450 : Cond := Cond.fieldLink RX9 57 "PageOne$Piece" "line" "I"
theorem mw_450 : wd_450 ∈ wsL_law := ci_19 _ (List.mem_of_getElem? (i := 18) rfl)
abbrev wd_451 : Cond := Cond.methodLink RX11 155 ⟨"PageOne$Item", "maySit", "(LPageOne$Piece;II)Z"⟩
theorem mw_451 : wd_451 ∈ wsL_law := ci_19 _ (List.mem_of_getElem? (i := 19) rfl)
abbrev wd_452 : Cond := Cond.sameMethod "PageOne$Item" "PageOne$Item" "maySit" "(LPageOne$Piece;II)Z"
theorem mw_452 : wd_452 ∈ wsL_law := ci_19 _ (List.mem_of_getElem? (i := 20) rfl)
abbrev wd_453 : Cond := Cond.selects RX2 ⟨"PageOne$Item", "maySit", "(LPageOne$Piece;II)Z"⟩ yX4_maySit
theorem mw_453 : wd_453 ∈ wsL_law := ci_19 _ (List.mem_of_getElem? (i := 21) rfl)
abbrev wd_454 : Cond := Cond.instanceMethod yX4_maySit
theorem mw_454 : wd_454 ∈ wsL_law := ci_19 _ (List.mem_of_getElem? (i := 22) rfl)
abbrev wd_455 : Cond := Cond.code yX4_maySit cX4_maySit 4 (some .boolean)
theorem mw_455 : wd_455 ∈ wsL_law := ci_19 _ (List.mem_of_getElem? (i := 23) rfl)
abbrev wd_456 : Cond := Cond.selects RX3 ⟨"PageOne$Item", "maySit", "(LPageOne$Piece;II)Z"⟩ yX4_maySit
theorem mw_456 : wd_456 ∈ wsL_law := ci_20 _ (List.mem_of_getElem? (i := 0) rfl)
abbrev wd_457 : Cond := Cond.instanceMethod ⟨"PageOne$Item", "maySit", "(LPageOne$Piece;II)Z"⟩
theorem mw_457 : wd_457 ∈ wsL_law := ci_20 _ (List.mem_of_getElem? (i := 1) rfl)
abbrev wd_458 : Cond := Cond.selects RX5 ⟨"PageOne$Item", "maySit", "(LPageOne$Piece;II)Z"⟩ yX5_maySit
theorem mw_458 : wd_458 ∈ wsL_law := ci_20 _ (List.mem_of_getElem? (i := 2) rfl)
abbrev wd_459 : Cond := Cond.instanceMethod yX5_maySit
theorem mw_459 : wd_459 ∈ wsL_law := ci_20 _ (List.mem_of_getElem? (i := 3) rfl)
abbrev wd_460 : Cond := Cond.code yX5_maySit cX5_maySit 5 (some .boolean)
theorem mw_460 : wd_460 ∈ wsL_law := ci_20 _ (List.mem_of_getElem? (i := 4) rfl)
abbrev wd_461 : Cond := Cond.fieldLink RX5 19 "PageOne$Notice" "first" "[I"
theorem mw_461 : wd_461 ∈ wsL_law := ci_20 _ (List.mem_of_getElem? (i := 5) rfl)
abbrev wd_462 : Cond := Cond.sameField "PageOne$Notice" "PageOne$Item" "first" "[I"
theorem mw_462 : wd_462 ∈ wsL_law := ci_20 _ (List.mem_of_getElem? (i := 6) rfl)
abbrev wd_463 : Cond := Cond.fieldLink RX5 27 "PageOne$Item" "first" "[I"
theorem mw_463 : wd_463 ∈ wsL_law := ci_20 _ (List.mem_of_getElem? (i := 7) rfl)
abbrev wd_464 : Cond := Cond.fieldLink RX5 28 "PageOne$Piece" "page" "I"
theorem mw_464 : wd_464 ∈ wsL_law := ci_20 _ (List.mem_of_getElem? (i := 8) rfl)
abbrev wd_465 : Cond := Cond.fieldLink RX5 33 "PageOne$Piece" "column" "I"
theorem mw_465 : wd_465 ∈ wsL_law := ci_20 _ (List.mem_of_getElem? (i := 9) rfl)
abbrev wd_466 : Cond := Cond.selects RX6 ⟨"PageOne$Item", "maySit", "(LPageOne$Piece;II)Z"⟩ yX6_maySit
theorem mw_466 : wd_466 ∈ wsL_law := ci_20 _ (List.mem_of_getElem? (i := 10) rfl)
abbrev wd_467 : Cond := Cond.instanceMethod yX6_maySit
theorem mw_467 : wd_467 ∈ wsL_law := ci_20 _ (List.mem_of_getElem? (i := 11) rfl)
abbrev wd_468 : Cond := Cond.code yX6_maySit cX6_maySit 4 (some .boolean)
theorem mw_468 : wd_468 ∈ wsL_law := ci_20 _ (List.mem_of_getElem? (i := 12) rfl)
abbrev wd_469 : Cond := Cond.methodLink RX6 34 yX8_startsWith
theorem mw_469 : wd_469 ∈ wsL_law := ci_20 _ (List.mem_of_getElem? (i := 13) rfl)
abbrev wd_470 : Cond := Cond.instanceMethod yX8_startsWith
theorem mw_470 : wd_470 ∈ wsL_law := ci_20 _ (List.mem_of_getElem? (i := 14) rfl)
abbrev wd_471 : Cond := Cond.selects RX8 yX8_startsWith yX8_startsWith
theorem mw_471 : wd_471 ∈ wsL_law := ci_20 _ (List.mem_of_getElem? (i := 15) rfl)
abbrev wd_472 : Cond := Cond.code yX8_startsWith cX8_startsWith 2 (some .boolean)
theorem mw_472 : wd_472 ∈ wsL_law := ci_20 _ (List.mem_of_getElem? (i := 16) rfl)
abbrev wd_473 : Cond := Cond.selects RX7 ⟨"PageOne$Item", "maySit", "(LPageOne$Piece;II)Z"⟩ yX4_maySit
theorem mw_473 : wd_473 ∈ wsL_law := ci_20 _ (List.mem_of_getElem? (i := 17) rfl)
abbrev wd_474 : Cond := Cond.selects RX10 ⟨"PageOne$Item", "maySit", "(LPageOne$Piece;II)Z"⟩ yX10_maySit
theorem mw_474 : wd_474 ∈ wsL_law := ci_20 _ (List.mem_of_getElem? (i := 18) rfl)
abbrev wd_475 : Cond := Cond.instanceMethod yX10_maySit
theorem mw_475 : wd_475 ∈ wsL_law := ci_20 _ (List.mem_of_getElem? (i := 19) rfl)
abbrev wd_476 : Cond := Cond.code yX10_maySit cX10_maySit 6 (some .boolean)
theorem mw_476 : wd_476 ∈ wsL_law := ci_20 _ (List.mem_of_getElem? (i := 20) rfl)
abbrev wd_477 : Cond := Cond.fieldLink RX10 34 "PageOne$Piece" "h" "I"
theorem mw_477 : wd_477 ∈ wsL_law := ci_20 _ (List.mem_of_getElem? (i := 21) rfl)
abbrev wd_478 : Cond := Cond.fieldLink RX10 42 "PageOne$Piece" "page" "I"
theorem mw_478 : wd_478 ∈ wsL_law := ci_20 _ (List.mem_of_getElem? (i := 22) rfl)
abbrev wd_479 : Cond := Cond.fieldLink RX10 49 "PageOne$Story" "count" "I"
theorem mw_479 : wd_479 ∈ wsL_law := ci_20 _ (List.mem_of_getElem? (i := 23) rfl)
abbrev wd_480 : Cond := Cond.sameField "PageOne$Story" "PageOne$Item" "count" "I"
theorem mw_480 : wd_480 ∈ wsL_law := ci_21 _ (List.mem_of_getElem? (i := 0) rfl)
abbrev wd_481 : Cond := Cond.methodLink RX10 30 ⟨"PageOne$Story", "lastPiece", "()LPageOne$Piece;"⟩
theorem mw_481 : wd_481 ∈ wsL_law := ci_21 _ (List.mem_of_getElem? (i := 1) rfl)
abbrev wd_482 : Cond := Cond.sameMethod "PageOne$Story" "PageOne$Item" "lastPiece" "()LPageOne$Piece;"
theorem mw_482 : wd_482 ∈ wsL_law := ci_21 _ (List.mem_of_getElem? (i := 2) rfl)
abbrev wd_483 : Cond := Cond.selects RX10 ⟨"PageOne$Story", "lastPiece", "()LPageOne$Piece;"⟩ yX4_lastPiece
theorem mw_483 : wd_483 ∈ wsL_law := ci_21 _ (List.mem_of_getElem? (i := 3) rfl)
abbrev wd_484 : Cond := Cond.instanceMethod yX4_lastPiece
theorem mw_484 : wd_484 ∈ wsL_law := ci_21 _ (List.mem_of_getElem? (i := 4) rfl)
abbrev wd_485 : Cond := Cond.code yX4_lastPiece cX4_lastPiece 1 (some (.object "PageOne$Piece"))
theorem mw_485 : wd_485 ∈ wsL_law := ci_21 _ (List.mem_of_getElem? (i := 5) rfl)
abbrev wd_486 : Cond := Cond.methodLink RX10 39 yX10_canTake
theorem mw_486 : wd_486 ∈ wsL_law := ci_21 _ (List.mem_of_getElem? (i := 6) rfl)
abbrev wd_487 : Cond := Cond.instanceMethod yX10_canTake
theorem mw_487 : wd_487 ∈ wsL_law := ci_21 _ (List.mem_of_getElem? (i := 7) rfl)
abbrev wd_488 : Cond := Cond.selects RX10 yX10_canTake yX10_canTake
theorem mw_488 : wd_488 ∈ wsL_law := ci_21 _ (List.mem_of_getElem? (i := 8) rfl)
abbrev wd_489 : Cond := Cond.code yX10_canTake cX10_canTake 5 (some .boolean)
theorem mw_489 : wd_489 ∈ wsL_law := ci_21 _ (List.mem_of_getElem? (i := 9) rfl)
abbrev wd_490 : Cond := Cond.methodLink RX10 45 yX8_isBehind
theorem mw_490 : wd_490 ∈ wsL_law := ci_21 _ (List.mem_of_getElem? (i := 10) rfl)
abbrev wd_491 : Cond := Cond.instanceMethod yX8_isBehind
theorem mw_491 : wd_491 ∈ wsL_law := ci_21 _ (List.mem_of_getElem? (i := 11) rfl)
abbrev wd_492 : Cond := Cond.selects RX8 yX8_isBehind yX8_isBehind
theorem mw_492 : wd_492 ∈ wsL_law := ci_21 _ (List.mem_of_getElem? (i := 12) rfl)
abbrev wd_493 : Cond := Cond.code yX8_isBehind cX8_isBehind 2 (some .boolean)
theorem mw_493 : wd_493 ∈ wsL_law := ci_21 _ (List.mem_of_getElem? (i := 13) rfl)
abbrev wd_494 : Cond := Cond.methodLink RX10 52 yX10_takenBy
theorem mw_494 : wd_494 ∈ wsL_law := ci_21 _ (List.mem_of_getElem? (i := 14) rfl)
abbrev wd_495 : Cond := Cond.instanceMethod yX10_takenBy
theorem mw_495 : wd_495 ∈ wsL_law := ci_21 _ (List.mem_of_getElem? (i := 15) rfl)
abbrev wd_496 : Cond := Cond.selects RX10 yX10_takenBy yX10_takenBy
theorem mw_496 : wd_496 ∈ wsL_law := ci_21 _ (List.mem_of_getElem? (i := 16) rfl)
abbrev wd_497 : Cond := Cond.code yX10_takenBy cX10_takenBy 3 (some .int)
theorem mw_497 : wd_497 ∈ wsL_law := ci_21 _ (List.mem_of_getElem? (i := 17) rfl)
abbrev wd_498 : Cond := Cond.fieldLink RX10 60 "PageOne$Story" "pieces" "[LPageOne$Piece;"
theorem mw_498 : wd_498 ∈ wsL_law := ci_21 _ (List.mem_of_getElem? (i := 18) rfl)
abbrev wd_499 : Cond := Cond.sameField "PageOne$Story" "PageOne$Item" "pieces" "[LPageOne$Piece;"
theorem mw_499 : wd_499 ∈ wsL_law := ci_21 _ (List.mem_of_getElem? (i := 19) rfl)
abbrev wd_500 : Cond := Cond.methodLink RX10 56 yX10_standing
theorem mw_500 : wd_500 ∈ wsL_law := ci_21 _ (List.mem_of_getElem? (i := 20) rfl)
abbrev wd_501 : Cond := Cond.instanceMethod yX10_standing
theorem mw_501 : wd_501 ∈ wsL_law := ci_21 _ (List.mem_of_getElem? (i := 21) rfl)
abbrev wd_502 : Cond := Cond.selects RX10 yX10_standing yX10_standing
theorem mw_502 : wd_502 ∈ wsL_law := ci_21 _ (List.mem_of_getElem? (i := 22) rfl)
abbrev wd_503 : Cond := Cond.code yX10_standing cX10_standing 1 (some .int)
theorem mw_503 : wd_503 ∈ wsL_law := ci_21 _ (List.mem_of_getElem? (i := 23) rfl)
abbrev wd_504 : Cond := Cond.methodLink RX10 64 yX10_takenBefore
theorem mw_504 : wd_504 ∈ wsL_law := ci_22 _ (List.mem_of_getElem? (i := 0) rfl)
abbrev wd_505 : Cond := Cond.instanceMethod yX10_takenBefore
theorem mw_505 : wd_505 ∈ wsL_law := ci_22 _ (List.mem_of_getElem? (i := 1) rfl)
abbrev wd_506 : Cond := Cond.selects RX10 yX10_takenBefore yX10_takenBefore
theorem mw_506 : wd_506 ∈ wsL_law := ci_22 _ (List.mem_of_getElem? (i := 2) rfl)
abbrev wd_507 : Cond := Cond.code yX10_takenBefore cX10_takenBefore 4 (some .int)
theorem mw_507 : wd_507 ∈ wsL_law := ci_22 _ (List.mem_of_getElem? (i := 3) rfl)
abbrev wd_508 : Cond := Cond.methodLink RX11 159 yX11_stand
theorem mw_508 : wd_508 ∈ wsL_law := ci_22 _ (List.mem_of_getElem? (i := 4) rfl)
abbrev wd_509 : Cond := Cond.instanceMethod yX11_stand
theorem mw_509 : wd_509 ∈ wsL_law := ci_22 _ (List.mem_of_getElem? (i := 5) rfl)
abbrev wd_510 : Cond := Cond.selects RX11 yX11_stand yX11_stand
theorem mw_510 : wd_510 ∈ wsL_law := ci_22 _ (List.mem_of_getElem? (i := 6) rfl)
abbrev wd_511 : Cond := Cond.code yX11_stand cX11_stand 2 none
theorem mw_511 : wd_511 ∈ wsL_law := ci_22 _ (List.mem_of_getElem? (i := 7) rfl)
abbrev wd_512 : Cond := Cond.fieldLink RX11 229 "PageOne$Piece" "page" "I"
theorem mw_512 : wd_512 ∈ wsL_law := ci_22 _ (List.mem_of_getElem? (i := 8) rfl)
abbrev wd_513 : Cond := Cond.fieldLink RX11 304 "PageOne$Piece" "item" "LPageOne$Item;"
theorem mw_513 : wd_513 ∈ wsL_law := ci_22 _ (List.mem_of_getElem? (i := 9) rfl)
abbrev wd_514 : Cond := Cond.methodLink RX11 297 yX8_sign
theorem mw_514 : wd_514 ∈ wsL_law := ci_22 _ (List.mem_of_getElem? (i := 10) rfl)
abbrev wd_515 : Cond := Cond.instanceMethod yX8_sign
theorem mw_515 : wd_515 ∈ wsL_law := ci_22 _ (List.mem_of_getElem? (i := 11) rfl)
abbrev wd_516 : Cond := Cond.selects RX8 yX8_sign yX8_sign
theorem mw_516 : wd_516 ∈ wsL_law := ci_22 _ (List.mem_of_getElem? (i := 12) rfl)
abbrev wd_517 : Cond := Cond.code yX8_sign cX8_sign 1 (some .int)
theorem mw_517 : wd_517 ∈ wsL_law := ci_22 _ (List.mem_of_getElem? (i := 13) rfl)
abbrev wd_518 : Cond := Cond.fieldLink RX8 31 "PageOne$Item" "number" "I"
theorem mw_518 : wd_518 ∈ wsL_law := ci_22 _ (List.mem_of_getElem? (i := 14) rfl)
abbrev wd_519 : Cond := Cond.methodLink RX11 300 yX9_mark
theorem mw_519 : wd_519 ∈ wsL_law := ci_22 _ (List.mem_of_getElem? (i := 15) rfl)
abbrev wd_520 : Cond := Cond.instanceMethod yX9_mark
theorem mw_520 : wd_520 ∈ wsL_law := ci_22 _ (List.mem_of_getElem? (i := 16) rfl)
abbrev wd_521 : Cond := Cond.selects RX9 yX9_mark yX9_mark
theorem mw_521 : wd_521 ∈ wsL_law := ci_22 _ (List.mem_of_getElem? (i := 17) rfl)
abbrev wd_522 : Cond := Cond.code yX9_mark cX9_mark 5 none
theorem mw_522 : wd_522 ∈ wsL_law := ci_22 _ (List.mem_of_getElem? (i := 18) rfl)
abbrev wd_523 : Cond := Cond.methodLink RX11 307 ⟨"PageOne$Item", "gain", "(LPageOne$Piece;)V"⟩
theorem mw_523 : wd_523 ∈ wsL_law := ci_22 _ (List.mem_of_getElem? (i := 19) rfl)
abbrev wd_524 : Cond := Cond.sameMethod "PageOne$Item" "PageOne$Item" "gain" "(LPageOne$Piece;)V"
theorem mw_524 : wd_524 ∈ wsL_law := ci_22 _ (List.mem_of_getElem? (i := 20) rfl)
abbrev wd_525 : Cond := Cond.selects RX2 ⟨"PageOne$Item", "gain", "(LPageOne$Piece;)V"⟩ yX4_gain
theorem mw_525 : wd_525 ∈ wsL_law := ci_22 _ (List.mem_of_getElem? (i := 21) rfl)
abbrev wd_526 : Cond := Cond.instanceMethod yX4_gain
theorem mw_526 : wd_526 ∈ wsL_law := ci_22 _ (List.mem_of_getElem? (i := 22) rfl)
abbrev wd_527 : Cond := Cond.code yX4_gain cX4_gain 2 none
theorem mw_527 : wd_527 ∈ wsL_law := ci_22 _ (List.mem_of_getElem? (i := 23) rfl)
abbrev wd_528 : Cond := Cond.methodLink RX4 41 ⟨"PageOne$Item", "hasRoom", "()Z"⟩
theorem mw_528 : wd_528 ∈ wsL_law := ci_23 _ (List.mem_of_getElem? (i := 0) rfl)
abbrev wd_529 : Cond := Cond.selects RX3 ⟨"PageOne$Item", "gain", "(LPageOne$Piece;)V"⟩ yX4_gain
theorem mw_529 : wd_529 ∈ wsL_law := ci_23 _ (List.mem_of_getElem? (i := 1) rfl)
abbrev wd_530 : Cond := Cond.selects RX5 ⟨"PageOne$Item", "gain", "(LPageOne$Piece;)V"⟩ yX4_gain
theorem mw_530 : wd_530 ∈ wsL_law := ci_23 _ (List.mem_of_getElem? (i := 2) rfl)
abbrev wd_531 : Cond := Cond.selects RX6 ⟨"PageOne$Item", "gain", "(LPageOne$Piece;)V"⟩ yX4_gain
theorem mw_531 : wd_531 ∈ wsL_law := ci_23 _ (List.mem_of_getElem? (i := 3) rfl)
abbrev wd_532 : Cond := Cond.selects RX7 ⟨"PageOne$Item", "gain", "(LPageOne$Piece;)V"⟩ yX4_gain
theorem mw_532 : wd_532 ∈ wsL_law := ci_23 _ (List.mem_of_getElem? (i := 4) rfl)
abbrev wd_533 : Cond := Cond.selects RX10 ⟨"PageOne$Item", "gain", "(LPageOne$Piece;)V"⟩ yX4_gain
theorem mw_533 : wd_533 ∈ wsL_law := ci_23 _ (List.mem_of_getElem? (i := 5) rfl)
abbrev wd_534 : Cond := Cond.methodLink RX11 163 yX0_init
theorem mw_534 : wd_534 ∈ wsL_law := ci_23 _ (List.mem_of_getElem? (i := 6) rfl)
abbrev wd_535 : Cond := Cond.instanceMethod yX0_init
theorem mw_535 : wd_535 ∈ wsL_law := ci_23 _ (List.mem_of_getElem? (i := 7) rfl)
abbrev wd_536 : Cond := Cond.code yX0_init cX0_init 4 none
theorem mw_536 : wd_536 ∈ wsL_law := ci_23 _ (List.mem_of_getElem? (i := 8) rfl)
abbrev wd_537 : Cond := Cond.methodLink RX0 1 objectInit
theorem mw_537 : wd_537 ∈ wsL_law := ci_23 _ (List.mem_of_getElem? (i := 9) rfl)
abbrev wd_538 : Cond := Cond.fieldLink RX0 7 "PageOne$Act" "piece" "LPageOne$Piece;"
theorem mw_538 : wd_538 ∈ wsL_law := ci_23 _ (List.mem_of_getElem? (i := 10) rfl)
abbrev wd_539 : Cond := Cond.fieldLink RX0 13 "PageOne$Act" "lifted" "Z"
theorem mw_539 : wd_539 ∈ wsL_law := ci_23 _ (List.mem_of_getElem? (i := 11) rfl)
abbrev wd_540 : Cond := Cond.fieldLink RX0 17 "PageOne$Act" "ahead" "LPageOne$Act;"
theorem mw_540 : wd_540 ∈ wsL_law := ci_23 _ (List.mem_of_getElem? (i := 12) rfl)
abbrev wd_541 : Cond := Cond.fieldLink RX0 21 "PageOne$Act" "parts" "I"
theorem mw_541 : wd_541 ∈ wsL_law := ci_23 _ (List.mem_of_getElem? (i := 13) rfl)
abbrev wd_542 : Cond := Cond.methodLink RX11 166 yX11_keep
theorem mw_542 : wd_542 ∈ wsL_law := ci_23 _ (List.mem_of_getElem? (i := 14) rfl)
abbrev wd_543 : Cond := Cond.instanceMethod yX11_keep
theorem mw_543 : wd_543 ∈ wsL_law := ci_23 _ (List.mem_of_getElem? (i := 15) rfl)
abbrev wd_544 : Cond := Cond.selects RX11 yX11_keep yX11_keep
theorem mw_544 : wd_544 ∈ wsL_law := ci_23 _ (List.mem_of_getElem? (i := 16) rfl)
abbrev wd_545 : Cond := Cond.code yX11_keep cX11_keep 2 none
theorem mw_545 : wd_545 ∈ wsL_law := ci_23 _ (List.mem_of_getElem? (i := 17) rfl)
abbrev wd_546 : Cond := Cond.methodLink RL 72 yX12_put
theorem mw_546 : wd_546 ∈ wsL_law := ci_23 _ (List.mem_of_getElem? (i := 18) rfl)
abbrev wd_547 : Cond := Cond.instanceMethod yX12_put
theorem mw_547 : wd_547 ∈ wsL_law := ci_23 _ (List.mem_of_getElem? (i := 19) rfl)
abbrev wd_548 : Cond := Cond.selects RX12 yX12_put yX12_put
theorem mw_548 : wd_548 ∈ wsL_law := ci_23 _ (List.mem_of_getElem? (i := 20) rfl)
abbrev wd_549 : Cond := Cond.code yX12_put cX12_put 10 (some .int)
theorem mw_549 : wd_549 ∈ wsL_law := ci_23 _ (List.mem_of_getElem? (i := 21) rfl)
abbrev wd_550 : Cond := Cond.methodLink RX12 212 yX12_isFree
theorem mw_550 : wd_550 ∈ wsL_law := ci_23 _ (List.mem_of_getElem? (i := 22) rfl)
abbrev wd_551 : Cond := Cond.instanceMethod yX12_isFree
theorem mw_551 : wd_551 ∈ wsL_law := ci_23 _ (List.mem_of_getElem? (i := 23) rfl)
abbrev wd_552 : Cond := Cond.selects RX12 yX12_isFree yX12_isFree
theorem mw_552 : wd_552 ∈ wsL_law := ci_24 _ (List.mem_of_getElem? (i := 0) rfl)
abbrev wd_553 : Cond := Cond.code yX12_isFree cX12_isFree 8 (some .boolean)
theorem mw_553 : wd_553 ∈ wsL_law := ci_24 _ (List.mem_of_getElem? (i := 1) rfl)
abbrev wd_554 : Cond := Cond.methodLink RX12 189 yX12_isCell
theorem mw_554 : wd_554 ∈ wsL_law := ci_24 _ (List.mem_of_getElem? (i := 2) rfl)
abbrev wd_555 : Cond := Cond.instanceMethod yX12_isCell
theorem mw_555 : wd_555 ∈ wsL_law := ci_24 _ (List.mem_of_getElem? (i := 3) rfl)
abbrev wd_556 : Cond := Cond.selects RX12 yX12_isCell yX12_isCell
theorem mw_556 : wd_556 ∈ wsL_law := ci_24 _ (List.mem_of_getElem? (i := 4) rfl)
abbrev wd_557 : Cond := Cond.code yX12_isCell cX12_isCell 4 (some .boolean)
theorem mw_557 : wd_557 ∈ wsL_law := ci_24 _ (List.mem_of_getElem? (i := 5) rfl)
abbrev wd_558 : Cond := Cond.methodLink RX12 216 yX12_mayRun
theorem mw_558 : wd_558 ∈ wsL_law := ci_24 _ (List.mem_of_getElem? (i := 6) rfl)
abbrev wd_559 : Cond := Cond.instanceMethod yX12_mayRun
theorem mw_559 : wd_559 ∈ wsL_law := ci_24 _ (List.mem_of_getElem? (i := 7) rfl)
abbrev wd_560 : Cond := Cond.selects RX12 yX12_mayRun yX12_mayRun
theorem mw_560 : wd_560 ∈ wsL_law := ci_24 _ (List.mem_of_getElem? (i := 8) rfl)
abbrev wd_561 : Cond := Cond.code yX12_mayRun cX12_mayRun 10 (some .boolean)
theorem mw_561 : wd_561 ∈ wsL_law := ci_24 _ (List.mem_of_getElem? (i := 9) rfl)
abbrev wd_562 : Cond := Cond.methodLink RX12 196 yX12_stand
theorem mw_562 : wd_562 ∈ wsL_law := ci_24 _ (List.mem_of_getElem? (i := 10) rfl)
abbrev wd_563 : Cond := Cond.instanceMethod yX12_stand
theorem mw_563 : wd_563 ∈ wsL_law := ci_24 _ (List.mem_of_getElem? (i := 11) rfl)
abbrev wd_564 : Cond := Cond.selects RX12 yX12_stand yX12_stand
theorem mw_564 : wd_564 ∈ wsL_law := ci_24 _ (List.mem_of_getElem? (i := 12) rfl)
abbrev wd_565 : Cond := Cond.code yX12_stand cX12_stand 8 none
theorem mw_565 : wd_565 ∈ wsL_law := ci_24 _ (List.mem_of_getElem? (i := 13) rfl)
abbrev wd_566 : Cond := Cond.methodLink RX12 192 yX12_sets
theorem mw_566 : wd_566 ∈ wsL_law := ci_24 _ (List.mem_of_getElem? (i := 14) rfl)
abbrev wd_567 : Cond := Cond.instanceMethod yX12_sets
theorem mw_567 : wd_567 ∈ wsL_law := ci_24 _ (List.mem_of_getElem? (i := 15) rfl)
abbrev wd_568 : Cond := Cond.selects RX12 yX12_sets yX12_sets
theorem mw_568 : wd_568 ∈ wsL_law := ci_24 _ (List.mem_of_getElem? (i := 16) rfl)
abbrev wd_569 : Cond := Cond.code yX12_sets cX12_sets 9 none
theorem mw_569 : wd_569 ∈ wsL_law := ci_24 _ (List.mem_of_getElem? (i := 17) rfl)
abbrev wd_570 : Cond := Cond.methodLink RX12 186 yX12_takes
theorem mw_570 : wd_570 ∈ wsL_law := ci_24 _ (List.mem_of_getElem? (i := 18) rfl)
abbrev wd_571 : Cond := Cond.instanceMethod yX12_takes
theorem mw_571 : wd_571 ∈ wsL_law := ci_24 _ (List.mem_of_getElem? (i := 19) rfl)
abbrev wd_572 : Cond := Cond.selects RX12 yX12_takes yX12_takes
theorem mw_572 : wd_572 ∈ wsL_law := ci_24 _ (List.mem_of_getElem? (i := 20) rfl)
abbrev wd_573 : Cond := Cond.code yX12_takes cX12_takes 5 (some .int)
theorem mw_573 : wd_573 ∈ wsL_law := ci_24 _ (List.mem_of_getElem? (i := 21) rfl)
abbrev wd_574 : Cond := Cond.methodLink RX12 199 yX12_from
theorem mw_574 : wd_574 ∈ wsL_law := ci_24 _ (List.mem_of_getElem? (i := 22) rfl)
abbrev wd_575 : Cond := Cond.instanceMethod yX12_from
theorem mw_575 : wd_575 ∈ wsL_law := ci_24 _ (List.mem_of_getElem? (i := 23) rfl)
abbrev wd_576 : Cond := Cond.selects RX12 yX12_from yX12_from
theorem mw_576 : wd_576 ∈ wsL_law := ci_25 _ (List.mem_of_getElem? (i := 0) rfl)
abbrev wd_577 : Cond := Cond.code yX12_from cX12_from 5 (some .int)
theorem mw_577 : wd_577 ∈ wsL_law := ci_25 _ (List.mem_of_getElem? (i := 1) rfl)
abbrev wd_578 : Cond := Cond.methodLink RX12 202 yX12_unstand
theorem mw_578 : wd_578 ∈ wsL_law := ci_25 _ (List.mem_of_getElem? (i := 2) rfl)
abbrev wd_579 : Cond := Cond.instanceMethod yX12_unstand
theorem mw_579 : wd_579 ∈ wsL_law := ci_25 _ (List.mem_of_getElem? (i := 3) rfl)
abbrev wd_580 : Cond := Cond.selects RX12 yX12_unstand yX12_unstand
theorem mw_580 : wd_580 ∈ wsL_law := ci_25 _ (List.mem_of_getElem? (i := 4) rfl)
abbrev wd_581 : Cond := Cond.code yX12_unstand cX12_unstand 3 none
theorem mw_581 : wd_581 ∈ wsL_law := ci_25 _ (List.mem_of_getElem? (i := 5) rfl)
abbrev wd_582 : Cond := Cond.methodLink RX12 219 yX12_mayMend
theorem mw_582 : wd_582 ∈ wsL_law := ci_25 _ (List.mem_of_getElem? (i := 6) rfl)
abbrev wd_583 : Cond := Cond.instanceMethod yX12_mayMend
theorem mw_583 : wd_583 ∈ wsL_law := ci_25 _ (List.mem_of_getElem? (i := 7) rfl)
abbrev wd_584 : Cond := Cond.selects RX12 yX12_mayMend yX12_mayMend
theorem mw_584 : wd_584 ∈ wsL_law := ci_25 _ (List.mem_of_getElem? (i := 8) rfl)
abbrev wd_585 : Cond := Cond.code yX12_mayMend cX12_mayMend 6 (some .boolean)
theorem mw_585 : wd_585 ∈ wsL_law := ci_25 _ (List.mem_of_getElem? (i := 9) rfl)
abbrev wd_586 : Cond := Cond.methodLink RX12 209 yX12_wasPrintedAhead
theorem mw_586 : wd_586 ∈ wsL_law := ci_25 _ (List.mem_of_getElem? (i := 10) rfl)
abbrev wd_587 : Cond := Cond.instanceMethod yX12_wasPrintedAhead
theorem mw_587 : wd_587 ∈ wsL_law := ci_25 _ (List.mem_of_getElem? (i := 11) rfl)
abbrev wd_588 : Cond := Cond.selects RX12 yX12_wasPrintedAhead yX12_wasPrintedAhead
theorem mw_588 : wd_588 ∈ wsL_law := ci_25 _ (List.mem_of_getElem? (i := 12) rfl)
abbrev wd_589 : Cond := Cond.code yX12_wasPrintedAhead cX12_wasPrintedAhead 4 (some .boolean)
theorem mw_589 : wd_589 ∈ wsL_law := ci_25 _ (List.mem_of_getElem? (i := 13) rfl)
abbrev wd_590 : Cond := Cond.methodLink RX12 222 yX12_acts
theorem mw_590 : wd_590 ∈ wsL_law := ci_25 _ (List.mem_of_getElem? (i := 14) rfl)
abbrev wd_591 : Cond := Cond.instanceMethod yX12_acts
theorem mw_591 : wd_591 ∈ wsL_law := ci_25 _ (List.mem_of_getElem? (i := 15) rfl)
abbrev wd_592 : Cond := Cond.selects RX12 yX12_acts yX12_acts
theorem mw_592 : wd_592 ∈ wsL_law := ci_25 _ (List.mem_of_getElem? (i := 16) rfl)
abbrev wd_593 : Cond := Cond.code yX12_acts cX12_acts 8 none
theorem mw_593 : wd_593 ∈ wsL_law := ci_25 _ (List.mem_of_getElem? (i := 17) rfl)
abbrev wd_594 : Cond := Cond.methodLink RL 73 yX11_lift
theorem mw_594 : wd_594 ∈ wsL_law := ci_25 _ (List.mem_of_getElem? (i := 18) rfl)
abbrev wd_595 : Cond := Cond.instanceMethod yX11_lift
theorem mw_595 : wd_595 ∈ wsL_law := ci_25 _ (List.mem_of_getElem? (i := 19) rfl)
abbrev wd_596 : Cond := Cond.selects RX11 yX11_lift yX11_lift
theorem mw_596 : wd_596 ∈ wsL_law := ci_25 _ (List.mem_of_getElem? (i := 20) rfl)
abbrev wd_597 : Cond := Cond.code yX11_lift cX11_lift 4 (some .int)
theorem mw_597 : wd_597 ∈ wsL_law := ci_25 _ (List.mem_of_getElem? (i := 21) rfl)
abbrev wd_598 : Cond := Cond.methodLink RX11 173 ⟨"PageOne$Item", "lastPiece", "()LPageOne$Piece;"⟩
theorem mw_598 : wd_598 ∈ wsL_law := ci_25 _ (List.mem_of_getElem? (i := 22) rfl)
abbrev wd_599 : Cond := Cond.sameMethod "PageOne$Item" "PageOne$Item" "lastPiece" "()LPageOne$Piece;"
theorem mw_599 : wd_599 ∈ wsL_law := ci_25 _ (List.mem_of_getElem? (i := 23) rfl)
abbrev wd_600 : Cond := Cond.selects RX2 ⟨"PageOne$Item", "lastPiece", "()LPageOne$Piece;"⟩ yX4_lastPiece
theorem mw_600 : wd_600 ∈ wsL_law := ci_26 _ (List.mem_of_getElem? (i := 0) rfl)
abbrev wd_601 : Cond := Cond.selects RX3 ⟨"PageOne$Item", "lastPiece", "()LPageOne$Piece;"⟩ yX4_lastPiece
theorem mw_601 : wd_601 ∈ wsL_law := ci_26 _ (List.mem_of_getElem? (i := 1) rfl)
abbrev wd_602 : Cond := Cond.selects RX5 ⟨"PageOne$Item", "lastPiece", "()LPageOne$Piece;"⟩ yX4_lastPiece
theorem mw_602 : wd_602 ∈ wsL_law := ci_26 _ (List.mem_of_getElem? (i := 2) rfl)
abbrev wd_603 : Cond := Cond.selects RX6 ⟨"PageOne$Item", "lastPiece", "()LPageOne$Piece;"⟩ yX4_lastPiece
theorem mw_603 : wd_603 ∈ wsL_law := ci_26 _ (List.mem_of_getElem? (i := 3) rfl)
abbrev wd_604 : Cond := Cond.selects RX7 ⟨"PageOne$Item", "lastPiece", "()LPageOne$Piece;"⟩ yX4_lastPiece
theorem mw_604 : wd_604 ∈ wsL_law := ci_26 _ (List.mem_of_getElem? (i := 4) rfl)
abbrev wd_605 : Cond := Cond.selects RX10 ⟨"PageOne$Item", "lastPiece", "()LPageOne$Piece;"⟩ yX4_lastPiece
theorem mw_605 : wd_605 ∈ wsL_law := ci_26 _ (List.mem_of_getElem? (i := 5) rfl)
abbrev wd_606 : Cond := Cond.methodLink RX11 177 yX11_takeOff
theorem mw_606 : wd_606 ∈ wsL_law := ci_26 _ (List.mem_of_getElem? (i := 6) rfl)
abbrev wd_607 : Cond := Cond.instanceMethod yX11_takeOff
theorem mw_607 : wd_607 ∈ wsL_law := ci_26 _ (List.mem_of_getElem? (i := 7) rfl)
abbrev wd_608 : Cond := Cond.selects RX11 yX11_takeOff yX11_takeOff
theorem mw_608 : wd_608 ∈ wsL_law := ci_26 _ (List.mem_of_getElem? (i := 8) rfl)
abbrev wd_609 : Cond := Cond.code yX11_takeOff cX11_takeOff 2 none
theorem mw_609 : wd_609 ∈ wsL_law := ci_26 _ (List.mem_of_getElem? (i := 9) rfl)
abbrev wd_610 : Cond := Cond.methodLink RX11 310 ⟨"PageOne$Item", "loseLast", "()V"⟩
theorem mw_610 : wd_610 ∈ wsL_law := ci_26 _ (List.mem_of_getElem? (i := 10) rfl)
abbrev wd_611 : Cond := Cond.sameMethod "PageOne$Item" "PageOne$Item" "loseLast" "()V"
theorem mw_611 : wd_611 ∈ wsL_law := ci_26 _ (List.mem_of_getElem? (i := 11) rfl)
abbrev wd_612 : Cond := Cond.selects RX2 ⟨"PageOne$Item", "loseLast", "()V"⟩ yX4_loseLast
theorem mw_612 : wd_612 ∈ wsL_law := ci_26 _ (List.mem_of_getElem? (i := 12) rfl)
abbrev wd_613 : Cond := Cond.instanceMethod yX4_loseLast
theorem mw_613 : wd_613 ∈ wsL_law := ci_26 _ (List.mem_of_getElem? (i := 13) rfl)
abbrev wd_614 : Cond := Cond.code yX4_loseLast cX4_loseLast 1 none
theorem mw_614 : wd_614 ∈ wsL_law := ci_26 _ (List.mem_of_getElem? (i := 14) rfl)
abbrev wd_615 : Cond := Cond.selects RX3 ⟨"PageOne$Item", "loseLast", "()V"⟩ yX4_loseLast
theorem mw_615 : wd_615 ∈ wsL_law := ci_26 _ (List.mem_of_getElem? (i := 15) rfl)
abbrev wd_616 : Cond := Cond.selects RX5 ⟨"PageOne$Item", "loseLast", "()V"⟩ yX4_loseLast
theorem mw_616 : wd_616 ∈ wsL_law := ci_26 _ (List.mem_of_getElem? (i := 16) rfl)
abbrev wd_617 : Cond := Cond.selects RX6 ⟨"PageOne$Item", "loseLast", "()V"⟩ yX4_loseLast
theorem mw_617 : wd_617 ∈ wsL_law := ci_26 _ (List.mem_of_getElem? (i := 17) rfl)
abbrev wd_618 : Cond := Cond.selects RX7 ⟨"PageOne$Item", "loseLast", "()V"⟩ yX4_loseLast
theorem mw_618 : wd_618 ∈ wsL_law := ci_26 _ (List.mem_of_getElem? (i := 18) rfl)
abbrev wd_619 : Cond := Cond.selects RX10 ⟨"PageOne$Item", "loseLast", "()V"⟩ yX4_loseLast
theorem mw_619 : wd_619 ∈ wsL_law := ci_26 _ (List.mem_of_getElem? (i := 19) rfl)
abbrev wd_620 : Cond := Cond.methodLink RL 76 yX12_lift
theorem mw_620 : wd_620 ∈ wsL_law := ci_26 _ (List.mem_of_getElem? (i := 20) rfl)
abbrev wd_621 : Cond := Cond.instanceMethod yX12_lift
theorem mw_621 : wd_621 ∈ wsL_law := ci_26 _ (List.mem_of_getElem? (i := 21) rfl)
abbrev wd_622 : Cond := Cond.selects RX12 yX12_lift yX12_lift
theorem mw_622 : wd_622 ∈ wsL_law := ci_26 _ (List.mem_of_getElem? (i := 22) rfl)
abbrev wd_623 : Cond := Cond.code yX12_lift cX12_lift 3 (some .int)
theorem mw_623 : wd_623 ∈ wsL_law := ci_26 _ (List.mem_of_getElem? (i := 23) rfl)
abbrev wd_624 : Cond := Cond.methodLink RL 77 yX11_rule
theorem mw_624 : wd_624 ∈ wsL_law := ci_27 _ (List.mem_of_getElem? (i := 0) rfl)
abbrev wd_625 : Cond := Cond.instanceMethod yX11_rule
theorem mw_625 : wd_625 ∈ wsL_law := ci_27 _ (List.mem_of_getElem? (i := 1) rfl)
abbrev wd_626 : Cond := Cond.selects RX11 yX11_rule yX11_rule
theorem mw_626 : wd_626 ∈ wsL_law := ci_27 _ (List.mem_of_getElem? (i := 2) rfl)
abbrev wd_627 : Cond := Cond.code yX11_rule cX11_rule 5 (some .boolean)
theorem mw_627 : wd_627 ∈ wsL_law := ci_27 _ (List.mem_of_getElem? (i := 3) rfl)
abbrev wd_628 : Cond := Cond.methodLink RL 80 yX12_rule
theorem mw_628 : wd_628 ∈ wsL_law := ci_27 _ (List.mem_of_getElem? (i := 4) rfl)
abbrev wd_629 : Cond := Cond.instanceMethod yX12_rule
theorem mw_629 : wd_629 ∈ wsL_law := ci_27 _ (List.mem_of_getElem? (i := 5) rfl)
abbrev wd_630 : Cond := Cond.selects RX12 yX12_rule yX12_rule
theorem mw_630 : wd_630 ∈ wsL_law := ci_27 _ (List.mem_of_getElem? (i := 6) rfl)
abbrev wd_631 : Cond := Cond.code yX12_rule cX12_rule 4 (some .boolean)
theorem mw_631 : wd_631 ∈ wsL_law := ci_27 _ (List.mem_of_getElem? (i := 7) rfl)
abbrev wd_632 : Cond := Cond.methodLink RL 81 yX11_fill
theorem mw_632 : wd_632 ∈ wsL_law := ci_27 _ (List.mem_of_getElem? (i := 8) rfl)
abbrev wd_633 : Cond := Cond.instanceMethod yX11_fill
theorem mw_633 : wd_633 ∈ wsL_law := ci_27 _ (List.mem_of_getElem? (i := 9) rfl)
abbrev wd_634 : Cond := Cond.selects RX11 yX11_fill yX11_fill
theorem mw_634 : wd_634 ∈ wsL_law := ci_27 _ (List.mem_of_getElem? (i := 10) rfl)
abbrev wd_635 : Cond := Cond.code yX11_fill cX11_fill 4 (some .int)
theorem mw_635 : wd_635 ∈ wsL_law := ci_27 _ (List.mem_of_getElem? (i := 11) rfl)
abbrev wd_636 : Cond := Cond.fieldLink RX11 184 "PageOne$Act" "parts" "I"
theorem mw_636 : wd_636 ∈ wsL_law := ci_27 _ (List.mem_of_getElem? (i := 12) rfl)
abbrev wd_637 : Cond := Cond.methodLink RX11 180 yX11_fillColumn
theorem mw_637 : wd_637 ∈ wsL_law := ci_27 _ (List.mem_of_getElem? (i := 13) rfl)
abbrev wd_638 : Cond := Cond.instanceMethod yX11_fillColumn
theorem mw_638 : wd_638 ∈ wsL_law := ci_27 _ (List.mem_of_getElem? (i := 14) rfl)
abbrev wd_639 : Cond := Cond.selects RX11 yX11_fillColumn yX11_fillColumn
theorem mw_639 : wd_639 ∈ wsL_law := ci_27 _ (List.mem_of_getElem? (i := 15) rfl)
abbrev wd_640 : Cond := Cond.code yX11_fillColumn cX11_fillColumn 10 (some (.object "PageOne$Act"))
theorem mw_640 : wd_640 ∈ wsL_law := ci_27 _ (List.mem_of_getElem? (i := 16) rfl)
abbrev wd_641 : Cond := Cond.methodLink RX11 222 yX9_at
theorem mw_641 : wd_641 ∈ wsL_law := ci_27 _ (List.mem_of_getElem? (i := 17) rfl)
abbrev wd_642 : Cond := Cond.methodLink RX11 325 yX11_fillerFor
theorem mw_642 : wd_642 ∈ wsL_law := ci_27 _ (List.mem_of_getElem? (i := 18) rfl)
abbrev wd_643 : Cond := Cond.instanceMethod yX11_fillerFor
theorem mw_643 : wd_643 ∈ wsL_law := ci_27 _ (List.mem_of_getElem? (i := 19) rfl)
abbrev wd_644 : Cond := Cond.selects RX11 yX11_fillerFor yX11_fillerFor
theorem mw_644 : wd_644 ∈ wsL_law := ci_27 _ (List.mem_of_getElem? (i := 20) rfl)
abbrev wd_645 : Cond := Cond.code yX11_fillerFor cX11_fillerFor 5 (some (.object "PageOne$Filler"))
theorem mw_645 : wd_645 ∈ wsL_law := ci_27 _ (List.mem_of_getElem? (i := 21) rfl)
abbrev wd_646 : Cond := Cond.classLink RX11 114 "PageOne$Filler"
theorem mw_646 : wd_646 ∈ wsL_law := ci_27 _ (List.mem_of_getElem? (i := 22) rfl)
abbrev wd_647 : Cond := Cond.fieldLink RX11 330 "PageOne$Filler" "least" "I"
theorem mw_647 : wd_647 ∈ wsL_law := ci_27 _ (List.mem_of_getElem? (i := 23) rfl)
abbrev wd_648 : Cond := Cond.fieldLink RX11 333 "PageOne$Filler" "most" "I"
theorem mw_648 : wd_648 ∈ wsL_law := ci_28 _ (List.mem_of_getElem? (i := 0) rfl)
abbrev wd_649 : Cond := Cond.methodLink RX11 329 ⟨"PageOne$Filler", "hasRoom", "()Z"⟩
theorem mw_649 : wd_649 ∈ wsL_law := ci_28 _ (List.mem_of_getElem? (i := 1) rfl)
abbrev wd_650 : Cond := Cond.sameMethod "PageOne$Filler" "PageOne$Item" "hasRoom" "()Z"
theorem mw_650 : wd_650 ∈ wsL_law := ci_28 _ (List.mem_of_getElem? (i := 2) rfl)
abbrev wd_651 : Cond := Cond.selects RX2 ⟨"PageOne$Filler", "hasRoom", "()Z"⟩ yX4_hasRoom
theorem mw_651 : wd_651 ∈ wsL_law := ci_28 _ (List.mem_of_getElem? (i := 3) rfl)
abbrev wd_652 : Cond := Cond.methodLink RL 84 yX12_fill
theorem mw_652 : wd_652 ∈ wsL_law := ci_28 _ (List.mem_of_getElem? (i := 4) rfl)
abbrev wd_653 : Cond := Cond.instanceMethod yX12_fill
theorem mw_653 : wd_653 ∈ wsL_law := ci_28 _ (List.mem_of_getElem? (i := 5) rfl)
abbrev wd_654 : Cond := Cond.selects RX12 yX12_fill yX12_fill
theorem mw_654 : wd_654 ∈ wsL_law := ci_28 _ (List.mem_of_getElem? (i := 6) rfl)
abbrev wd_655 : Cond := Cond.code yX12_fill cX12_fill 7 (some .int)
theorem mw_655 : wd_655 ∈ wsL_law := ci_28 _ (List.mem_of_getElem? (i := 7) rfl)
abbrev wd_656 : Cond := Cond.fieldLink RX12 168 "PageOneModel" "filled" "I"
theorem mw_656 : wd_656 ∈ wsL_law := ci_28 _ (List.mem_of_getElem? (i := 8) rfl)
abbrev wd_657 : Cond := Cond.methodLink RX12 225 yX12_fillerFor
theorem mw_657 : wd_657 ∈ wsL_law := ci_28 _ (List.mem_of_getElem? (i := 9) rfl)
abbrev wd_658 : Cond := Cond.instanceMethod yX12_fillerFor
theorem mw_658 : wd_658 ∈ wsL_law := ci_28 _ (List.mem_of_getElem? (i := 10) rfl)
abbrev wd_659 : Cond := Cond.selects RX12 yX12_fillerFor yX12_fillerFor
theorem mw_659 : wd_659 ∈ wsL_law := ci_28 _ (List.mem_of_getElem? (i := 11) rfl)
abbrev wd_660 : Cond := Cond.code yX12_fillerFor cX12_fillerFor 4 (some .int)
theorem mw_660 : wd_660 ∈ wsL_law := ci_28 _ (List.mem_of_getElem? (i := 12) rfl)
abbrev wd_661 : Cond := Cond.methodLink RL 85 yX11_undo
theorem mw_661 : wd_661 ∈ wsL_law := ci_28 _ (List.mem_of_getElem? (i := 13) rfl)
abbrev wd_662 : Cond := Cond.instanceMethod yX11_undo
theorem mw_662 : wd_662 ∈ wsL_law := ci_28 _ (List.mem_of_getElem? (i := 14) rfl)
abbrev wd_663 : Cond := Cond.selects RX11 yX11_undo yX11_undo
theorem mw_663 : wd_663 ∈ wsL_law := ci_28 _ (List.mem_of_getElem? (i := 15) rfl)
abbrev wd_664 : Cond := Cond.code yX11_undo cX11_undo 1 (some .int)
theorem mw_664 : wd_664 ∈ wsL_law := ci_28 _ (List.mem_of_getElem? (i := 16) rfl)
abbrev wd_665 : Cond := Cond.methodLink RX11 187 yX11_takeBack
theorem mw_665 : wd_665 ∈ wsL_law := ci_28 _ (List.mem_of_getElem? (i := 17) rfl)
abbrev wd_666 : Cond := Cond.instanceMethod yX11_takeBack
theorem mw_666 : wd_666 ∈ wsL_law := ci_28 _ (List.mem_of_getElem? (i := 18) rfl)
abbrev wd_667 : Cond := Cond.selects RX11 yX11_takeBack yX11_takeBack
theorem mw_667 : wd_667 ∈ wsL_law := ci_28 _ (List.mem_of_getElem? (i := 19) rfl)
abbrev wd_668 : Cond := Cond.code yX11_takeBack cX11_takeBack 3 none
theorem mw_668 : wd_668 ∈ wsL_law := ci_28 _ (List.mem_of_getElem? (i := 20) rfl)
abbrev wd_669 : Cond := Cond.fieldLink RX11 313 "PageOne$Act" "lifted" "Z"
theorem mw_669 : wd_669 ∈ wsL_law := ci_28 _ (List.mem_of_getElem? (i := 21) rfl)
abbrev wd_670 : Cond := Cond.fieldLink RX11 317 "PageOne$Act" "piece" "LPageOne$Piece;"
theorem mw_670 : wd_670 ∈ wsL_law := ci_28 _ (List.mem_of_getElem? (i := 22) rfl)
abbrev wd_671 : Cond := Cond.fieldLink RX11 321 "PageOne$Act" "ahead" "LPageOne$Act;"
theorem mw_671 : wd_671 ∈ wsL_law := ci_28 _ (List.mem_of_getElem? (i := 23) rfl)
abbrev wd_672 : Cond := Cond.methodLink RL 88 yX12_undo
theorem mw_672 : wd_672 ∈ wsL_law := ci_29 _ (List.mem_of_getElem? (i := 0) rfl)
abbrev wd_673 : Cond := Cond.instanceMethod yX12_undo
theorem mw_673 : wd_673 ∈ wsL_law := ci_29 _ (List.mem_of_getElem? (i := 1) rfl)
abbrev wd_674 : Cond := Cond.selects RX12 yX12_undo yX12_undo
theorem mw_674 : wd_674 ∈ wsL_law := ci_29 _ (List.mem_of_getElem? (i := 2) rfl)
abbrev wd_675 : Cond := Cond.code yX12_undo cX12_undo 3 (some .int)
theorem mw_675 : wd_675 ∈ wsL_law := ci_29 _ (List.mem_of_getElem? (i := 3) rfl)
abbrev wd_676 : Cond := Cond.methodLink RL 89 yX11_plate
theorem mw_676 : wd_676 ∈ wsL_law := ci_29 _ (List.mem_of_getElem? (i := 4) rfl)
abbrev wd_677 : Cond := Cond.instanceMethod yX11_plate
theorem mw_677 : wd_677 ∈ wsL_law := ci_29 _ (List.mem_of_getElem? (i := 5) rfl)
abbrev wd_678 : Cond := Cond.selects RX11 yX11_plate yX11_plate
theorem mw_678 : wd_678 ∈ wsL_law := ci_29 _ (List.mem_of_getElem? (i := 6) rfl)
abbrev wd_679 : Cond := Cond.code yX11_plate cX11_plate 4 (some .int)
theorem mw_679 : wd_679 ∈ wsL_law := ci_29 _ (List.mem_of_getElem? (i := 7) rfl)
abbrev wd_680 : Cond := Cond.fieldLink RX11 201 "PageOne$Breach" "kind" "I"
theorem mw_680 : wd_680 ∈ wsL_law := ci_29 _ (List.mem_of_getElem? (i := 8) rfl)
abbrev wd_681 : Cond := Cond.methodLink RX11 190 yX9_cellCount
theorem mw_681 : wd_681 ∈ wsL_law := ci_29 _ (List.mem_of_getElem? (i := 9) rfl)
abbrev wd_682 : Cond := Cond.instanceMethod yX9_cellCount
theorem mw_682 : wd_682 ∈ wsL_law := ci_29 _ (List.mem_of_getElem? (i := 10) rfl)
abbrev wd_683 : Cond := Cond.selects RX9 yX9_cellCount yX9_cellCount
theorem mw_683 : wd_683 ∈ wsL_law := ci_29 _ (List.mem_of_getElem? (i := 11) rfl)
abbrev wd_684 : Cond := Cond.code yX9_cellCount cX9_cellCount 3 (some .int)
theorem mw_684 : wd_684 ∈ wsL_law := ci_29 _ (List.mem_of_getElem? (i := 12) rfl)
abbrev wd_685 : Cond := Cond.methodLink RX11 194 yX9_emptyCount
theorem mw_685 : wd_685 ∈ wsL_law := ci_29 _ (List.mem_of_getElem? (i := 13) rfl)
abbrev wd_686 : Cond := Cond.instanceMethod yX9_emptyCount
theorem mw_686 : wd_686 ∈ wsL_law := ci_29 _ (List.mem_of_getElem? (i := 14) rfl)
abbrev wd_687 : Cond := Cond.selects RX9 yX9_emptyCount yX9_emptyCount
theorem mw_687 : wd_687 ∈ wsL_law := ci_29 _ (List.mem_of_getElem? (i := 15) rfl)
abbrev wd_688 : Cond := Cond.code yX9_emptyCount cX9_emptyCount 3 (some .int)
theorem mw_688 : wd_688 ∈ wsL_law := ci_29 _ (List.mem_of_getElem? (i := 16) rfl)
abbrev wd_689 : Cond := Cond.methodLink RX9 64 yX9_emptyIn
theorem mw_689 : wd_689 ∈ wsL_law := ci_29 _ (List.mem_of_getElem? (i := 17) rfl)
abbrev wd_690 : Cond := Cond.instanceMethod yX9_emptyIn
theorem mw_690 : wd_690 ∈ wsL_law := ci_29 _ (List.mem_of_getElem? (i := 18) rfl)
abbrev wd_691 : Cond := Cond.selects RX9 yX9_emptyIn yX9_emptyIn
theorem mw_691 : wd_691 ∈ wsL_law := ci_29 _ (List.mem_of_getElem? (i := 19) rfl)
abbrev wd_692 : Cond := Cond.code yX9_emptyIn cX9_emptyIn 4 (some .int)
theorem mw_692 : wd_692 ∈ wsL_law := ci_29 _ (List.mem_of_getElem? (i := 20) rfl)
abbrev wd_693 : Cond := Cond.methodLink RX11 197 yX11_breachOn
theorem mw_693 : wd_693 ∈ wsL_law := ci_29 _ (List.mem_of_getElem? (i := 21) rfl)
abbrev wd_694 : Cond := Cond.instanceMethod yX11_breachOn
theorem mw_694 : wd_694 ∈ wsL_law := ci_29 _ (List.mem_of_getElem? (i := 22) rfl)
abbrev wd_695 : Cond := Cond.selects RX11 yX11_breachOn yX11_breachOn
theorem mw_695 : wd_695 ∈ wsL_law := ci_29 _ (List.mem_of_getElem? (i := 23) rfl)
abbrev wd_696 : Cond := Cond.code yX11_breachOn cX11_breachOn 4 (some (.object "PageOne$Breach"))
theorem mw_696 : wd_696 ∈ wsL_law := ci_30 _ (List.mem_of_getElem? (i := 0) rfl)
abbrev wd_697 : Cond := Cond.classLink RX11 202 RX1
theorem mw_697 : wd_697 ∈ wsL_law := ci_30 _ (List.mem_of_getElem? (i := 1) rfl)
abbrev wd_698 : Cond := Cond.instantiable RX1 3
theorem mw_698 : wd_698 ∈ wsL_law := ci_30 _ (List.mem_of_getElem? (i := 2) rfl)
abbrev wd_699 : Cond := Cond.initialized RX1
theorem mw_699 : wd_699 ∈ wsL_law := ci_30 _ (List.mem_of_getElem? (i := 3) rfl)
abbrev wd_700 : Cond := Cond.methodLink RX11 342 yX11_leastPair
theorem mw_700 : wd_700 ∈ wsL_law := ci_30 _ (List.mem_of_getElem? (i := 4) rfl)
abbrev wd_701 : Cond := Cond.instanceMethod yX11_leastPair
theorem mw_701 : wd_701 ∈ wsL_law := ci_30 _ (List.mem_of_getElem? (i := 5) rfl)
abbrev wd_702 : Cond := Cond.selects RX11 yX11_leastPair yX11_leastPair
theorem mw_702 : wd_702 ∈ wsL_law := ci_30 _ (List.mem_of_getElem? (i := 6) rfl)
abbrev wd_703 : Cond := Cond.code yX11_leastPair cX11_leastPair 5 (some (.object "PageOne$Breach"))
theorem mw_703 : wd_703 ∈ wsL_law := ci_30 _ (List.mem_of_getElem? (i := 7) rfl)
abbrev wd_704 : Cond := Cond.methodLink RX11 346 ⟨"PageOne$Item", "isOn", "(I)Z"⟩
theorem mw_704 : wd_704 ∈ wsL_law := ci_30 _ (List.mem_of_getElem? (i := 8) rfl)
abbrev wd_705 : Cond := Cond.sameMethod "PageOne$Item" "PageOne$Item" "isOn" "(I)Z"
theorem mw_705 : wd_705 ∈ wsL_law := ci_30 _ (List.mem_of_getElem? (i := 9) rfl)
abbrev wd_706 : Cond := Cond.selects RX2 ⟨"PageOne$Item", "isOn", "(I)Z"⟩ yX4_isOn
theorem mw_706 : wd_706 ∈ wsL_law := ci_30 _ (List.mem_of_getElem? (i := 10) rfl)
abbrev wd_707 : Cond := Cond.instanceMethod yX4_isOn
theorem mw_707 : wd_707 ∈ wsL_law := ci_30 _ (List.mem_of_getElem? (i := 11) rfl)
abbrev wd_708 : Cond := Cond.code yX4_isOn cX4_isOn 3 (some .boolean)
theorem mw_708 : wd_708 ∈ wsL_law := ci_30 _ (List.mem_of_getElem? (i := 12) rfl)
abbrev wd_709 : Cond := Cond.fieldLink RX4 45 "PageOne$Piece" "page" "I"
theorem mw_709 : wd_709 ∈ wsL_law := ci_30 _ (List.mem_of_getElem? (i := 13) rfl)
abbrev wd_710 : Cond := Cond.selects RX3 ⟨"PageOne$Item", "isOn", "(I)Z"⟩ yX4_isOn
theorem mw_710 : wd_710 ∈ wsL_law := ci_30 _ (List.mem_of_getElem? (i := 14) rfl)
abbrev wd_711 : Cond := Cond.selects RX5 ⟨"PageOne$Item", "isOn", "(I)Z"⟩ yX4_isOn
theorem mw_711 : wd_711 ∈ wsL_law := ci_30 _ (List.mem_of_getElem? (i := 15) rfl)
abbrev wd_712 : Cond := Cond.selects RX6 ⟨"PageOne$Item", "isOn", "(I)Z"⟩ yX4_isOn
theorem mw_712 : wd_712 ∈ wsL_law := ci_30 _ (List.mem_of_getElem? (i := 16) rfl)
abbrev wd_713 : Cond := Cond.selects RX7 ⟨"PageOne$Item", "isOn", "(I)Z"⟩ yX4_isOn
theorem mw_713 : wd_713 ∈ wsL_law := ci_30 _ (List.mem_of_getElem? (i := 17) rfl)
abbrev wd_714 : Cond := Cond.selects RX10 ⟨"PageOne$Item", "isOn", "(I)Z"⟩ yX4_isOn
theorem mw_714 : wd_714 ∈ wsL_law := ci_30 _ (List.mem_of_getElem? (i := 18) rfl)
abbrev wd_715 : Cond := Cond.methodLink RX11 354 yX11_mayNotMeet
theorem mw_715 : wd_715 ∈ wsL_law := ci_30 _ (List.mem_of_getElem? (i := 19) rfl)
abbrev wd_716 : Cond := Cond.instanceMethod yX11_mayNotMeet
theorem mw_716 : wd_716 ∈ wsL_law := ci_30 _ (List.mem_of_getElem? (i := 20) rfl)
abbrev wd_717 : Cond := Cond.selects RX11 yX11_mayNotMeet yX11_mayNotMeet
theorem mw_717 : wd_717 ∈ wsL_law := ci_30 _ (List.mem_of_getElem? (i := 21) rfl)
abbrev wd_718 : Cond := Cond.code yX11_mayNotMeet cX11_mayNotMeet 6 (some .boolean)
theorem mw_718 : wd_718 ∈ wsL_law := ci_30 _ (List.mem_of_getElem? (i := 22) rfl)
abbrev wd_719 : Cond := Cond.classLink RX11 104 "PageOne$Paid"
theorem mw_719 : wd_719 ∈ wsL_law := ci_30 _ (List.mem_of_getElem? (i := 23) rfl)
abbrev wd_720 : Cond := Cond.fieldLink RX11 260 "PageOne$Paid" "buyer" "I"
theorem mw_720 : wd_720 ∈ wsL_law := ci_31 _ (List.mem_of_getElem? (i := 0) rfl)
abbrev wd_721 : Cond := Cond.classLink RX11 83 "PageOne$Head"
theorem mw_721 : wd_721 ∈ wsL_law := ci_31 _ (List.mem_of_getElem? (i := 1) rfl)
abbrev wd_722 : Cond := Cond.methodLink RX11 362 yX11_isNamedIn
theorem mw_722 : wd_722 ∈ wsL_law := ci_31 _ (List.mem_of_getElem? (i := 2) rfl)
abbrev wd_723 : Cond := Cond.static yX11_isNamedIn
theorem mw_723 : wd_723 ∈ wsL_law := ci_31 _ (List.mem_of_getElem? (i := 3) rfl)
abbrev wd_724 : Cond := Cond.code yX11_isNamedIn cX11_isNamedIn 4 (some .boolean)
theorem mw_724 : wd_724 ∈ wsL_law := ci_31 _ (List.mem_of_getElem? (i := 4) rfl)
abbrev wd_725 : Cond := Cond.methodLink RX11 358 ⟨"PageOne$Item", "meets", "(LPageOne$Item;IZ)Z"⟩
theorem mw_725 : wd_725 ∈ wsL_law := ci_31 _ (List.mem_of_getElem? (i := 5) rfl)
abbrev wd_726 : Cond := Cond.sameMethod "PageOne$Item" "PageOne$Item" "meets" "(LPageOne$Item;IZ)Z"
theorem mw_726 : wd_726 ∈ wsL_law := ci_31 _ (List.mem_of_getElem? (i := 6) rfl)
abbrev wd_727 : Cond := Cond.selects RX2 ⟨"PageOne$Item", "meets", "(LPageOne$Item;IZ)Z"⟩ yX4_meets
theorem mw_727 : wd_727 ∈ wsL_law := ci_31 _ (List.mem_of_getElem? (i := 7) rfl)
abbrev wd_728 : Cond := Cond.instanceMethod yX4_meets
theorem mw_728 : wd_728 ∈ wsL_law := ci_31 _ (List.mem_of_getElem? (i := 8) rfl)
abbrev wd_729 : Cond := Cond.code yX4_meets cX4_meets 5 (some .boolean)
theorem mw_729 : wd_729 ∈ wsL_law := ci_31 _ (List.mem_of_getElem? (i := 9) rfl)
abbrev wd_730 : Cond := Cond.methodLink RX4 48 ⟨"PageOne$Item", "touches", "(LPageOne$Piece;Z)Z"⟩
theorem mw_730 : wd_730 ∈ wsL_law := ci_31 _ (List.mem_of_getElem? (i := 10) rfl)
abbrev wd_731 : Cond := Cond.sameMethod "PageOne$Item" "PageOne$Item" "touches" "(LPageOne$Piece;Z)Z"
theorem mw_731 : wd_731 ∈ wsL_law := ci_31 _ (List.mem_of_getElem? (i := 11) rfl)
abbrev wd_732 : Cond := Cond.selects RX2 ⟨"PageOne$Item", "touches", "(LPageOne$Piece;Z)Z"⟩ yX4_touches
theorem mw_732 : wd_732 ∈ wsL_law := ci_31 _ (List.mem_of_getElem? (i := 12) rfl)
abbrev wd_733 : Cond := Cond.instanceMethod yX4_touches
theorem mw_733 : wd_733 ∈ wsL_law := ci_31 _ (List.mem_of_getElem? (i := 13) rfl)
abbrev wd_734 : Cond := Cond.code yX4_touches cX4_touches 4 (some .boolean)
theorem mw_734 : wd_734 ∈ wsL_law := ci_31 _ (List.mem_of_getElem? (i := 14) rfl)
abbrev wd_735 : Cond := Cond.methodLink RX4 52 yX8_isBeside
theorem mw_735 : wd_735 ∈ wsL_law := ci_31 _ (List.mem_of_getElem? (i := 15) rfl)
abbrev wd_736 : Cond := Cond.instanceMethod yX8_isBeside
theorem mw_736 : wd_736 ∈ wsL_law := ci_31 _ (List.mem_of_getElem? (i := 16) rfl)
abbrev wd_737 : Cond := Cond.selects RX8 yX8_isBeside yX8_isBeside
theorem mw_737 : wd_737 ∈ wsL_law := ci_31 _ (List.mem_of_getElem? (i := 17) rfl)
abbrev wd_738 : Cond := Cond.code yX8_isBeside cX8_isBeside 3 (some .boolean)
theorem mw_738 : wd_738 ∈ wsL_law := ci_31 _ (List.mem_of_getElem? (i := 18) rfl)
abbrev wd_739 : Cond := Cond.methodLink RX4 56 yX8_isOverOrUnder
theorem mw_739 : wd_739 ∈ wsL_law := ci_31 _ (List.mem_of_getElem? (i := 19) rfl)
abbrev wd_740 : Cond := Cond.instanceMethod yX8_isOverOrUnder
theorem mw_740 : wd_740 ∈ wsL_law := ci_31 _ (List.mem_of_getElem? (i := 20) rfl)
abbrev wd_741 : Cond := Cond.selects RX8 yX8_isOverOrUnder yX8_isOverOrUnder
theorem mw_741 : wd_741 ∈ wsL_law := ci_31 _ (List.mem_of_getElem? (i := 21) rfl)
abbrev wd_742 : Cond := Cond.code yX8_isOverOrUnder cX8_isOverOrUnder 3 (some .boolean)
theorem mw_742 : wd_742 ∈ wsL_law := ci_31 _ (List.mem_of_getElem? (i := 22) rfl)
abbrev wd_743 : Cond := Cond.selects RX3 ⟨"PageOne$Item", "touches", "(LPageOne$Piece;Z)Z"⟩ yX4_touches
theorem mw_743 : wd_743 ∈ wsL_law := ci_31 _ (List.mem_of_getElem? (i := 23) rfl)
abbrev wd_744 : Cond := Cond.selects RX5 ⟨"PageOne$Item", "touches", "(LPageOne$Piece;Z)Z"⟩ yX4_touches
theorem mw_744 : wd_744 ∈ wsL_law := ci_32 _ (List.mem_of_getElem? (i := 0) rfl)
abbrev wd_745 : Cond := Cond.selects RX6 ⟨"PageOne$Item", "touches", "(LPageOne$Piece;Z)Z"⟩ yX4_touches
theorem mw_745 : wd_745 ∈ wsL_law := ci_32 _ (List.mem_of_getElem? (i := 1) rfl)
abbrev wd_746 : Cond := Cond.selects RX7 ⟨"PageOne$Item", "touches", "(LPageOne$Piece;Z)Z"⟩ yX4_touches
theorem mw_746 : wd_746 ∈ wsL_law := ci_32 _ (List.mem_of_getElem? (i := 2) rfl)
abbrev wd_747 : Cond := Cond.selects RX10 ⟨"PageOne$Item", "touches", "(LPageOne$Piece;Z)Z"⟩ yX4_touches
theorem mw_747 : wd_747 ∈ wsL_law := ci_32 _ (List.mem_of_getElem? (i := 3) rfl)
abbrev wd_748 : Cond := Cond.selects RX3 ⟨"PageOne$Item", "meets", "(LPageOne$Item;IZ)Z"⟩ yX4_meets
theorem mw_748 : wd_748 ∈ wsL_law := ci_32 _ (List.mem_of_getElem? (i := 4) rfl)
abbrev wd_749 : Cond := Cond.selects RX5 ⟨"PageOne$Item", "meets", "(LPageOne$Item;IZ)Z"⟩ yX4_meets
theorem mw_749 : wd_749 ∈ wsL_law := ci_32 _ (List.mem_of_getElem? (i := 5) rfl)
abbrev wd_750 : Cond := Cond.selects RX6 ⟨"PageOne$Item", "meets", "(LPageOne$Item;IZ)Z"⟩ yX4_meets
theorem mw_750 : wd_750 ∈ wsL_law := ci_32 _ (List.mem_of_getElem? (i := 6) rfl)
abbrev wd_751 : Cond := Cond.selects RX7 ⟨"PageOne$Item", "meets", "(LPageOne$Item;IZ)Z"⟩ yX4_meets
theorem mw_751 : wd_751 ∈ wsL_law := ci_32 _ (List.mem_of_getElem? (i := 7) rfl)
abbrev wd_752 : Cond := Cond.selects RX10 ⟨"PageOne$Item", "meets", "(LPageOne$Item;IZ)Z"⟩ yX4_meets
theorem mw_752 : wd_752 ∈ wsL_law := ci_32 _ (List.mem_of_getElem? (i := 8) rfl)
abbrev wd_753 : Cond := Cond.methodLink RX11 353 yX1_init
theorem mw_753 : wd_753 ∈ wsL_law := ci_32 _ (List.mem_of_getElem? (i := 9) rfl)
abbrev wd_754 : Cond := Cond.instanceMethod yX1_init
theorem mw_754 : wd_754 ∈ wsL_law := ci_32 _ (List.mem_of_getElem? (i := 10) rfl)
abbrev wd_755 : Cond := Cond.code yX1_init cX1_init 4 none
theorem mw_755 : wd_755 ∈ wsL_law := ci_32 _ (List.mem_of_getElem? (i := 11) rfl)
abbrev wd_756 : Cond := Cond.methodLink RX1 1 objectInit
theorem mw_756 : wd_756 ∈ wsL_law := ci_32 _ (List.mem_of_getElem? (i := 12) rfl)
abbrev wd_757 : Cond := Cond.fieldLink RX1 7 "PageOne$Breach" "kind" "I"
theorem mw_757 : wd_757 ∈ wsL_law := ci_32 _ (List.mem_of_getElem? (i := 13) rfl)
abbrev wd_758 : Cond := Cond.fieldLink RX1 13 "PageOne$Breach" "first" "I"
theorem mw_758 : wd_758 ∈ wsL_law := ci_32 _ (List.mem_of_getElem? (i := 14) rfl)
abbrev wd_759 : Cond := Cond.fieldLink RX1 16 "PageOne$Breach" "other" "I"
theorem mw_759 : wd_759 ∈ wsL_law := ci_32 _ (List.mem_of_getElem? (i := 15) rfl)
abbrev wd_760 : Cond := Cond.methodLink RX11 349 yX11_failsAlone
theorem mw_760 : wd_760 ∈ wsL_law := ci_32 _ (List.mem_of_getElem? (i := 16) rfl)
abbrev wd_761 : Cond := Cond.instanceMethod yX11_failsAlone
theorem mw_761 : wd_761 ∈ wsL_law := ci_32 _ (List.mem_of_getElem? (i := 17) rfl)
abbrev wd_762 : Cond := Cond.selects RX11 yX11_failsAlone yX11_failsAlone
theorem mw_762 : wd_762 ∈ wsL_law := ci_32 _ (List.mem_of_getElem? (i := 18) rfl)
abbrev wd_763 : Cond := Cond.code yX11_failsAlone cX11_failsAlone 4 (some .boolean)
theorem mw_763 : wd_763 ∈ wsL_law := ci_32 _ (List.mem_of_getElem? (i := 19) rfl)
abbrev wd_764 : Cond := Cond.fieldLink RX11 366 "PageOne$Story" "least" "I"
theorem mw_764 : wd_764 ∈ wsL_law := ci_32 _ (List.mem_of_getElem? (i := 20) rfl)
abbrev wd_765 : Cond := Cond.methodLink RX11 254 yX10_standing
theorem mw_765 : wd_765 ∈ wsL_law := ci_32 _ (List.mem_of_getElem? (i := 21) rfl)
abbrev wd_766 : Cond := Cond.methodLink RX11 367 yX11_standsOverStory
theorem mw_766 : wd_766 ∈ wsL_law := ci_32 _ (List.mem_of_getElem? (i := 22) rfl)
abbrev wd_767 : Cond := Cond.instanceMethod yX11_standsOverStory
theorem mw_767 : wd_767 ∈ wsL_law := ci_32 _ (List.mem_of_getElem? (i := 23) rfl)
abbrev wd_768 : Cond := Cond.selects RX11 yX11_standsOverStory yX11_standsOverStory
theorem mw_768 : wd_768 ∈ wsL_law := ci_33 _ (List.mem_of_getElem? (i := 0) rfl)
abbrev wd_769 : Cond := Cond.code yX11_standsOverStory cX11_standsOverStory 4 (some .boolean)
theorem mw_769 : wd_769 ∈ wsL_law := ci_33 _ (List.mem_of_getElem? (i := 1) rfl)
abbrev wd_770 : Cond := Cond.fieldLink RX11 232 "PageOne$Piece" "column" "I"
theorem mw_770 : wd_770 ∈ wsL_law := ci_33 _ (List.mem_of_getElem? (i := 2) rfl)
abbrev wd_771 : Cond := Cond.fieldLink RX11 238 "PageOne$Piece" "w" "I"
theorem mw_771 : wd_771 ∈ wsL_law := ci_33 _ (List.mem_of_getElem? (i := 3) rfl)
abbrev wd_772 : Cond := Cond.fieldLink RX11 235 "PageOne$Piece" "line" "I"
theorem mw_772 : wd_772 ∈ wsL_law := ci_33 _ (List.mem_of_getElem? (i := 4) rfl)
abbrev wd_773 : Cond := Cond.fieldLink RX11 241 "PageOne$Piece" "h" "I"
theorem mw_773 : wd_773 ∈ wsL_law := ci_33 _ (List.mem_of_getElem? (i := 5) rfl)
abbrev wd_774 : Cond := Cond.fieldLink RX11 292 "PageOne$Head" "owner" "LPageOne$Story;"
theorem mw_774 : wd_774 ∈ wsL_law := ci_33 _ (List.mem_of_getElem? (i := 6) rfl)
abbrev wd_775 : Cond := Cond.fieldLink RX11 296 "PageOne$Story" "number" "I"
theorem mw_775 : wd_775 ∈ wsL_law := ci_33 _ (List.mem_of_getElem? (i := 7) rfl)
abbrev wd_776 : Cond := Cond.sameField "PageOne$Story" "PageOne$Item" "number" "I"
theorem mw_776 : wd_776 ∈ wsL_law := ci_33 _ (List.mem_of_getElem? (i := 8) rfl)
abbrev wd_777 : Cond := Cond.methodLink RX11 371 ⟨"PageOne$Head", "lastPiece", "()LPageOne$Piece;"⟩
theorem mw_777 : wd_777 ∈ wsL_law := ci_33 _ (List.mem_of_getElem? (i := 9) rfl)
abbrev wd_778 : Cond := Cond.sameMethod "PageOne$Head" "PageOne$Item" "lastPiece" "()LPageOne$Piece;"
theorem mw_778 : wd_778 ∈ wsL_law := ci_33 _ (List.mem_of_getElem? (i := 10) rfl)
abbrev wd_779 : Cond := Cond.selects RX3 ⟨"PageOne$Head", "lastPiece", "()LPageOne$Piece;"⟩ yX4_lastPiece
theorem mw_779 : wd_779 ∈ wsL_law := ci_33 _ (List.mem_of_getElem? (i := 11) rfl)
abbrev wd_780 : Cond := Cond.methodLink RX11 206 yX9_copyFrom
theorem mw_780 : wd_780 ∈ wsL_law := ci_33 _ (List.mem_of_getElem? (i := 12) rfl)
abbrev wd_781 : Cond := Cond.instanceMethod yX9_copyFrom
theorem mw_781 : wd_781 ∈ wsL_law := ci_33 _ (List.mem_of_getElem? (i := 13) rfl)
abbrev wd_782 : Cond := Cond.selects RX9 yX9_copyFrom yX9_copyFrom
theorem mw_782 : wd_782 ∈ wsL_law := ci_33 _ (List.mem_of_getElem? (i := 14) rfl)
abbrev wd_783 : Cond := Cond.code yX9_copyFrom cX9_copyFrom 2 none
theorem mw_783 : wd_783 ∈ wsL_law := ci_33 _ (List.mem_of_getElem? (i := 15) rfl)
abbrev wd_784 : Cond := Cond.methodLink RX9 68 arraycopyName
theorem mw_784 : wd_784 ∈ wsL_law := ci_33 _ (List.mem_of_getElem? (i := 16) rfl)
abbrev wd_785 : Cond := Cond.native arraycopyName
theorem mw_785 : wd_785 ∈ wsL_law := ci_33 _ (List.mem_of_getElem? (i := 17) rfl)
abbrev wd_786 : Cond := Cond.static arraycopyName
theorem mw_786 : wd_786 ∈ wsL_law := ci_33 _ (List.mem_of_getElem? (i := 18) rfl)
abbrev wd_787 : Cond := Cond.initialized "java/lang/System"
theorem mw_787 : wd_787 ∈ wsL_law := ci_33 _ (List.mem_of_getElem? (i := 19) rfl)
abbrev wd_788 : Cond := Cond.methodLink RL 92 yX12_plate
theorem mw_788 : wd_788 ∈ wsL_law := ci_33 _ (List.mem_of_getElem? (i := 20) rfl)
abbrev wd_789 : Cond := Cond.instanceMethod yX12_plate
theorem mw_789 : wd_789 ∈ wsL_law := ci_33 _ (List.mem_of_getElem? (i := 21) rfl)
abbrev wd_790 : Cond := Cond.selects RX12 yX12_plate yX12_plate
theorem mw_790 : wd_790 ∈ wsL_law := ci_33 _ (List.mem_of_getElem? (i := 22) rfl)
abbrev wd_791 : Cond := Cond.code yX12_plate cX12_plate 5 (some .int)
theorem mw_791 : wd_791 ∈ wsL_law := ci_33 _ (List.mem_of_getElem? (i := 23) rfl)
abbrev wd_792 : Cond := Cond.fieldLink RX12 228 "PageOneModel" "wrong" "I"
theorem mw_792 : wd_792 ∈ wsL_law := ci_34 _ (List.mem_of_getElem? (i := 0) rfl)
abbrev wd_793 : Cond := Cond.methodLink RX12 254 yX12_breaks
theorem mw_793 : wd_793 ∈ wsL_law := ci_34 _ (List.mem_of_getElem? (i := 1) rfl)
abbrev wd_794 : Cond := Cond.instanceMethod yX12_breaks
theorem mw_794 : wd_794 ∈ wsL_law := ci_34 _ (List.mem_of_getElem? (i := 2) rfl)
abbrev wd_795 : Cond := Cond.selects RX12 yX12_breaks yX12_breaks
theorem mw_795 : wd_795 ∈ wsL_law := ci_34 _ (List.mem_of_getElem? (i := 3) rfl)
abbrev wd_796 : Cond := Cond.code yX12_breaks cX12_breaks 5 none
theorem mw_796 : wd_796 ∈ wsL_law := ci_34 _ (List.mem_of_getElem? (i := 4) rfl)
abbrev wd_797 : Cond := Cond.fieldLink RX12 231 "PageOneModel" "wrongOne" "I"
theorem mw_797 : wd_797 ∈ wsL_law := ci_34 _ (List.mem_of_getElem? (i := 5) rfl)
abbrev wd_798 : Cond := Cond.fieldLink RX12 234 "PageOneModel" "wrongTwo" "I"
theorem mw_798 : wd_798 ∈ wsL_law := ci_34 _ (List.mem_of_getElem? (i := 6) rfl)
abbrev wd_799 : Cond := Cond.methodLink RX12 244 yX12_beside
theorem mw_799 : wd_799 ∈ wsL_law := ci_34 _ (List.mem_of_getElem? (i := 7) rfl)
abbrev wd_800 : Cond := Cond.instanceMethod yX12_beside
theorem mw_800 : wd_800 ∈ wsL_law := ci_34 _ (List.mem_of_getElem? (i := 8) rfl)
abbrev wd_801 : Cond := Cond.selects RX12 yX12_beside yX12_beside
theorem mw_801 : wd_801 ∈ wsL_law := ci_34 _ (List.mem_of_getElem? (i := 9) rfl)
abbrev wd_802 : Cond := Cond.code yX12_beside cX12_beside 4 none
theorem mw_802 : wd_802 ∈ wsL_law := ci_34 _ (List.mem_of_getElem? (i := 10) rfl)
abbrev wd_803 : Cond := Cond.methodLink RX12 237 yX12_isThing
theorem mw_803 : wd_803 ∈ wsL_law := ci_34 _ (List.mem_of_getElem? (i := 11) rfl)
abbrev wd_804 : Cond := Cond.instanceMethod yX12_isThing
theorem mw_804 : wd_804 ∈ wsL_law := ci_34 _ (List.mem_of_getElem? (i := 12) rfl)
abbrev wd_805 : Cond := Cond.selects RX12 yX12_isThing yX12_isThing
theorem mw_805 : wd_805 ∈ wsL_law := ci_34 _ (List.mem_of_getElem? (i := 13) rfl)
abbrev wd_806 : Cond := Cond.code yX12_isThing cX12_isThing 2 (some .boolean)
theorem mw_806 : wd_806 ∈ wsL_law := ci_34 _ (List.mem_of_getElem? (i := 14) rfl)
abbrev wd_807 : Cond := Cond.methodLink RX12 240 yX12_wrongs
theorem mw_807 : wd_807 ∈ wsL_law := ci_34 _ (List.mem_of_getElem? (i := 15) rfl)
abbrev wd_808 : Cond := Cond.instanceMethod yX12_wrongs
theorem mw_808 : wd_808 ∈ wsL_law := ci_34 _ (List.mem_of_getElem? (i := 16) rfl)
abbrev wd_809 : Cond := Cond.selects RX12 yX12_wrongs yX12_wrongs
theorem mw_809 : wd_809 ∈ wsL_law := ci_34 _ (List.mem_of_getElem? (i := 17) rfl)
abbrev wd_810 : Cond := Cond.code yX12_wrongs cX12_wrongs 6 none
theorem mw_810 : wd_810 ∈ wsL_law := ci_34 _ (List.mem_of_getElem? (i := 18) rfl)
abbrev wd_811 : Cond := Cond.methodLink RX12 248 yX12_standing
theorem mw_811 : wd_811 ∈ wsL_law := ci_34 _ (List.mem_of_getElem? (i := 19) rfl)
abbrev wd_812 : Cond := Cond.instanceMethod yX12_standing
theorem mw_812 : wd_812 ∈ wsL_law := ci_34 _ (List.mem_of_getElem? (i := 20) rfl)
abbrev wd_813 : Cond := Cond.selects RX12 yX12_standing yX12_standing
theorem mw_813 : wd_813 ∈ wsL_law := ci_34 _ (List.mem_of_getElem? (i := 21) rfl)
abbrev wd_814 : Cond := Cond.code yX12_standing cX12_standing 2 (some .int)
theorem mw_814 : wd_814 ∈ wsL_law := ci_34 _ (List.mem_of_getElem? (i := 22) rfl)
abbrev wd_815 : Cond := Cond.methodLink RX12 251 yX12_hasStory
theorem mw_815 : wd_815 ∈ wsL_law := ci_34 _ (List.mem_of_getElem? (i := 23) rfl)
abbrev wd_816 : Cond := Cond.instanceMethod yX12_hasStory
theorem mw_816 : wd_816 ∈ wsL_law := ci_35 _ (List.mem_of_getElem? (i := 0) rfl)
abbrev wd_817 : Cond := Cond.selects RX12 yX12_hasStory yX12_hasStory
theorem mw_817 : wd_817 ∈ wsL_law := ci_35 _ (List.mem_of_getElem? (i := 1) rfl)
abbrev wd_818 : Cond := Cond.code yX12_hasStory cX12_hasStory 6 (some .boolean)
theorem mw_818 : wd_818 ∈ wsL_law := ci_35 _ (List.mem_of_getElem? (i := 2) rfl)
abbrev wd_819 : Cond := Cond.methodLink RL 93 yX11_edition
theorem mw_819 : wd_819 ∈ wsL_law := ci_35 _ (List.mem_of_getElem? (i := 3) rfl)
abbrev wd_820 : Cond := Cond.instanceMethod yX11_edition
theorem mw_820 : wd_820 ∈ wsL_law := ci_35 _ (List.mem_of_getElem? (i := 4) rfl)
abbrev wd_821 : Cond := Cond.selects RX11 yX11_edition yX11_edition
theorem mw_821 : wd_821 ∈ wsL_law := ci_35 _ (List.mem_of_getElem? (i := 5) rfl)
abbrev wd_822 : Cond := Cond.code yX11_edition cX11_edition 1 (some .int)
theorem mw_822 : wd_822 ∈ wsL_law := ci_35 _ (List.mem_of_getElem? (i := 6) rfl)
abbrev wd_823 : Cond := Cond.methodLink RX11 216 yX11_closeEdition
theorem mw_823 : wd_823 ∈ wsL_law := ci_35 _ (List.mem_of_getElem? (i := 7) rfl)
abbrev wd_824 : Cond := Cond.instanceMethod yX11_closeEdition
theorem mw_824 : wd_824 ∈ wsL_law := ci_35 _ (List.mem_of_getElem? (i := 8) rfl)
abbrev wd_825 : Cond := Cond.selects RX11 yX11_closeEdition yX11_closeEdition
theorem mw_825 : wd_825 ∈ wsL_law := ci_35 _ (List.mem_of_getElem? (i := 9) rfl)
abbrev wd_826 : Cond := Cond.code yX11_closeEdition cX11_closeEdition 2 none
theorem mw_826 : wd_826 ∈ wsL_law := ci_35 _ (List.mem_of_getElem? (i := 10) rfl)
abbrev wd_827 : Cond := Cond.methodLink RX11 375 yX11_writeDown
theorem mw_827 : wd_827 ∈ wsL_law := ci_35 _ (List.mem_of_getElem? (i := 11) rfl)
abbrev wd_828 : Cond := Cond.instanceMethod yX11_writeDown
theorem mw_828 : wd_828 ∈ wsL_law := ci_35 _ (List.mem_of_getElem? (i := 12) rfl)
abbrev wd_829 : Cond := Cond.selects RX11 yX11_writeDown yX11_writeDown
theorem mw_829 : wd_829 ∈ wsL_law := ci_35 _ (List.mem_of_getElem? (i := 13) rfl)
abbrev wd_830 : Cond := Cond.code yX11_writeDown cX11_writeDown 6 none
theorem mw_830 : wd_830 ∈ wsL_law := ci_35 _ (List.mem_of_getElem? (i := 14) rfl)
abbrev wd_831 : Cond := Cond.methodLink RX11 378 yX11_writeDownItem
theorem mw_831 : wd_831 ∈ wsL_law := ci_35 _ (List.mem_of_getElem? (i := 15) rfl)
abbrev wd_832 : Cond := Cond.instanceMethod yX11_writeDownItem
theorem mw_832 : wd_832 ∈ wsL_law := ci_35 _ (List.mem_of_getElem? (i := 16) rfl)
abbrev wd_833 : Cond := Cond.selects RX11 yX11_writeDownItem yX11_writeDownItem
theorem mw_833 : wd_833 ∈ wsL_law := ci_35 _ (List.mem_of_getElem? (i := 17) rfl)
abbrev wd_834 : Cond := Cond.code yX11_writeDownItem cX11_writeDownItem 5 none
theorem mw_834 : wd_834 ∈ wsL_law := ci_35 _ (List.mem_of_getElem? (i := 18) rfl)
abbrev wd_835 : Cond := Cond.fieldLink RX11 388 "PageOne$Paid" "days" "[Z"
theorem mw_835 : wd_835 ∈ wsL_law := ci_35 _ (List.mem_of_getElem? (i := 19) rfl)
abbrev wd_836 : Cond := Cond.methodLink RL 96 yX12_edition
theorem mw_836 : wd_836 ∈ wsL_law := ci_35 _ (List.mem_of_getElem? (i := 20) rfl)
abbrev wd_837 : Cond := Cond.instanceMethod yX12_edition
theorem mw_837 : wd_837 ∈ wsL_law := ci_35 _ (List.mem_of_getElem? (i := 21) rfl)
abbrev wd_838 : Cond := Cond.selects RX12 yX12_edition yX12_edition
theorem mw_838 : wd_838 ∈ wsL_law := ci_35 _ (List.mem_of_getElem? (i := 22) rfl)
abbrev wd_839 : Cond := Cond.code yX12_edition cX12_edition 1 (some .int)
theorem mw_839 : wd_839 ∈ wsL_law := ci_35 _ (List.mem_of_getElem? (i := 23) rfl)
abbrev wd_840 : Cond := Cond.methodLink RX12 263 yX12_ends
theorem mw_840 : wd_840 ∈ wsL_law := ci_36 _ (List.mem_of_getElem? (i := 0) rfl)
abbrev wd_841 : Cond := Cond.instanceMethod yX12_ends
theorem mw_841 : wd_841 ∈ wsL_law := ci_36 _ (List.mem_of_getElem? (i := 1) rfl)
abbrev wd_842 : Cond := Cond.selects RX12 yX12_ends yX12_ends
theorem mw_842 : wd_842 ∈ wsL_law := ci_36 _ (List.mem_of_getElem? (i := 2) rfl)
abbrev wd_843 : Cond := Cond.code yX12_ends cX12_ends 3 none
theorem mw_843 : wd_843 ∈ wsL_law := ci_36 _ (List.mem_of_getElem? (i := 3) rfl)
abbrev wd_844 : Cond := Cond.methodLink RL 97 yX11_day
theorem mw_844 : wd_844 ∈ wsL_law := ci_36 _ (List.mem_of_getElem? (i := 4) rfl)
abbrev wd_845 : Cond := Cond.instanceMethod yX11_day
theorem mw_845 : wd_845 ∈ wsL_law := ci_36 _ (List.mem_of_getElem? (i := 5) rfl)
abbrev wd_846 : Cond := Cond.selects RX11 yX11_day yX11_day
theorem mw_846 : wd_846 ∈ wsL_law := ci_36 _ (List.mem_of_getElem? (i := 6) rfl)
abbrev wd_847 : Cond := Cond.code yX11_day cX11_day 1 (some .int)
theorem mw_847 : wd_847 ∈ wsL_law := ci_36 _ (List.mem_of_getElem? (i := 7) rfl)
abbrev wd_848 : Cond := Cond.methodLink RX11 219 yX11_clearDesk
theorem mw_848 : wd_848 ∈ wsL_law := ci_36 _ (List.mem_of_getElem? (i := 8) rfl)
abbrev wd_849 : Cond := Cond.instanceMethod yX11_clearDesk
theorem mw_849 : wd_849 ∈ wsL_law := ci_36 _ (List.mem_of_getElem? (i := 9) rfl)
abbrev wd_850 : Cond := Cond.selects RX11 yX11_clearDesk yX11_clearDesk
theorem mw_850 : wd_850 ∈ wsL_law := ci_36 _ (List.mem_of_getElem? (i := 10) rfl)
abbrev wd_851 : Cond := Cond.code yX11_clearDesk cX11_clearDesk 2 none
theorem mw_851 : wd_851 ∈ wsL_law := ci_36 _ (List.mem_of_getElem? (i := 11) rfl)
abbrev wd_852 : Cond := Cond.methodLink RX11 336 ⟨"PageOne$Item", "loseAll", "()V"⟩
theorem mw_852 : wd_852 ∈ wsL_law := ci_36 _ (List.mem_of_getElem? (i := 12) rfl)
abbrev wd_853 : Cond := Cond.sameMethod "PageOne$Item" "PageOne$Item" "loseAll" "()V"
theorem mw_853 : wd_853 ∈ wsL_law := ci_36 _ (List.mem_of_getElem? (i := 13) rfl)
abbrev wd_854 : Cond := Cond.selects RX2 ⟨"PageOne$Item", "loseAll", "()V"⟩ yX4_loseAll
theorem mw_854 : wd_854 ∈ wsL_law := ci_36 _ (List.mem_of_getElem? (i := 14) rfl)
abbrev wd_855 : Cond := Cond.instanceMethod yX4_loseAll
theorem mw_855 : wd_855 ∈ wsL_law := ci_36 _ (List.mem_of_getElem? (i := 15) rfl)
abbrev wd_856 : Cond := Cond.code yX4_loseAll cX4_loseAll 2 none
theorem mw_856 : wd_856 ∈ wsL_law := ci_36 _ (List.mem_of_getElem? (i := 16) rfl)
abbrev wd_857 : Cond := Cond.selects RX3 ⟨"PageOne$Item", "loseAll", "()V"⟩ yX4_loseAll
theorem mw_857 : wd_857 ∈ wsL_law := ci_36 _ (List.mem_of_getElem? (i := 17) rfl)
abbrev wd_858 : Cond := Cond.selects RX5 ⟨"PageOne$Item", "loseAll", "()V"⟩ yX4_loseAll
theorem mw_858 : wd_858 ∈ wsL_law := ci_36 _ (List.mem_of_getElem? (i := 18) rfl)
abbrev wd_859 : Cond := Cond.selects RX6 ⟨"PageOne$Item", "loseAll", "()V"⟩ yX4_loseAll
theorem mw_859 : wd_859 ∈ wsL_law := ci_36 _ (List.mem_of_getElem? (i := 19) rfl)
abbrev wd_860 : Cond := Cond.selects RX7 ⟨"PageOne$Item", "loseAll", "()V"⟩ yX4_loseAll
theorem mw_860 : wd_860 ∈ wsL_law := ci_36 _ (List.mem_of_getElem? (i := 20) rfl)
abbrev wd_861 : Cond := Cond.selects RX10 ⟨"PageOne$Item", "loseAll", "()V"⟩ yX4_loseAll
theorem mw_861 : wd_861 ∈ wsL_law := ci_36 _ (List.mem_of_getElem? (i := 21) rfl)
abbrev wd_862 : Cond := Cond.methodLink RX11 339 yX9_clear
theorem mw_862 : wd_862 ∈ wsL_law := ci_36 _ (List.mem_of_getElem? (i := 22) rfl)
abbrev wd_863 : Cond := Cond.instanceMethod yX9_clear
theorem mw_863 : wd_863 ∈ wsL_law := ci_36 _ (List.mem_of_getElem? (i := 23) rfl)
abbrev wd_864 : Cond := Cond.selects RX9 yX9_clear yX9_clear
theorem mw_864 : wd_864 ∈ wsL_law := ci_37 _ (List.mem_of_getElem? (i := 0) rfl)
abbrev wd_865 : Cond := Cond.code yX9_clear cX9_clear 1 none
theorem mw_865 : wd_865 ∈ wsL_law := ci_37 _ (List.mem_of_getElem? (i := 1) rfl)
abbrev wd_866 : Cond := Cond.methodLink RL 100 yX12_day
theorem mw_866 : wd_866 ∈ wsL_law := ci_37 _ (List.mem_of_getElem? (i := 2) rfl)
abbrev wd_867 : Cond := Cond.instanceMethod yX12_day
theorem mw_867 : wd_867 ∈ wsL_law := ci_37 _ (List.mem_of_getElem? (i := 3) rfl)
abbrev wd_868 : Cond := Cond.selects RX12 yX12_day yX12_day
theorem mw_868 : wd_868 ∈ wsL_law := ci_37 _ (List.mem_of_getElem? (i := 4) rfl)
abbrev wd_869 : Cond := Cond.code yX12_day cX12_day 2 (some .int)
theorem mw_869 : wd_869 ∈ wsL_law := ci_37 _ (List.mem_of_getElem? (i := 5) rfl)
abbrev wd_870 : Cond := Cond.methodLink RX12 266 yX12_forget
theorem mw_870 : wd_870 ∈ wsL_law := ci_37 _ (List.mem_of_getElem? (i := 6) rfl)
abbrev wd_871 : Cond := Cond.instanceMethod yX12_forget
theorem mw_871 : wd_871 ∈ wsL_law := ci_37 _ (List.mem_of_getElem? (i := 7) rfl)
abbrev wd_872 : Cond := Cond.selects RX12 yX12_forget yX12_forget
theorem mw_872 : wd_872 ∈ wsL_law := ci_37 _ (List.mem_of_getElem? (i := 8) rfl)
abbrev wd_873 : Cond := Cond.code yX12_forget cX12_forget 1 none
theorem mw_873 : wd_873 ∈ wsL_law := ci_37 _ (List.mem_of_getElem? (i := 9) rfl)
abbrev wd_874 : Cond := Cond.methodLink RL 101 yX11_cell
theorem mw_874 : wd_874 ∈ wsL_law := ci_37 _ (List.mem_of_getElem? (i := 10) rfl)
abbrev wd_875 : Cond := Cond.instanceMethod yX11_cell
theorem mw_875 : wd_875 ∈ wsL_law := ci_37 _ (List.mem_of_getElem? (i := 11) rfl)
abbrev wd_876 : Cond := Cond.selects RX11 yX11_cell yX11_cell
theorem mw_876 : wd_876 ∈ wsL_law := ci_37 _ (List.mem_of_getElem? (i := 12) rfl)
abbrev wd_877 : Cond := Cond.code yX11_cell cX11_cell 4 (some .int)
theorem mw_877 : wd_877 ∈ wsL_law := ci_37 _ (List.mem_of_getElem? (i := 13) rfl)
abbrev wd_878 : Cond := Cond.methodLink RL 104 yX12_cell
theorem mw_878 : wd_878 ∈ wsL_law := ci_37 _ (List.mem_of_getElem? (i := 14) rfl)
abbrev wd_879 : Cond := Cond.instanceMethod yX12_cell
theorem mw_879 : wd_879 ∈ wsL_law := ci_37 _ (List.mem_of_getElem? (i := 15) rfl)
abbrev wd_880 : Cond := Cond.selects RX12 yX12_cell yX12_cell
theorem mw_880 : wd_880 ∈ wsL_law := ci_37 _ (List.mem_of_getElem? (i := 16) rfl)
abbrev wd_881 : Cond := Cond.code yX12_cell cX12_cell 4 (some .int)
theorem mw_881 : wd_881 ∈ wsL_law := ci_37 _ (List.mem_of_getElem? (i := 17) rfl)
abbrev wd_882 : Cond := Cond.methodLink RL 105 yX11_piece
theorem mw_882 : wd_882 ∈ wsL_law := ci_37 _ (List.mem_of_getElem? (i := 18) rfl)
abbrev wd_883 : Cond := Cond.instanceMethod yX11_piece
theorem mw_883 : wd_883 ∈ wsL_law := ci_37 _ (List.mem_of_getElem? (i := 19) rfl)
abbrev wd_884 : Cond := Cond.selects RX11 yX11_piece yX11_piece
theorem mw_884 : wd_884 ∈ wsL_law := ci_37 _ (List.mem_of_getElem? (i := 20) rfl)
abbrev wd_885 : Cond := Cond.code yX11_piece cX11_piece 7 (some .int)
theorem mw_885 : wd_885 ∈ wsL_law := ci_37 _ (List.mem_of_getElem? (i := 21) rfl)
abbrev wd_886 : Cond := Cond.fieldLink RX11 225 "PageOne$Item" "pieces" "[LPageOne$Piece;"
theorem mw_886 : wd_886 ∈ wsL_law := ci_37 _ (List.mem_of_getElem? (i := 22) rfl)
abbrev wd_887 : Cond := Cond.methodLink RX11 244 yX10_takenBefore
theorem mw_887 : wd_887 ∈ wsL_law := ci_37 _ (List.mem_of_getElem? (i := 23) rfl)
abbrev wd_888 : Cond := Cond.methodLink RX11 247 yX10_takenBy
theorem mw_888 : wd_888 ∈ wsL_law := ci_38 _ (List.mem_of_getElem? (i := 0) rfl)
abbrev wd_889 : Cond := Cond.methodLink RL 108 yX12_piece
theorem mw_889 : wd_889 ∈ wsL_law := ci_38 _ (List.mem_of_getElem? (i := 1) rfl)
abbrev wd_890 : Cond := Cond.instanceMethod yX12_piece
theorem mw_890 : wd_890 ∈ wsL_law := ci_38 _ (List.mem_of_getElem? (i := 2) rfl)
abbrev wd_891 : Cond := Cond.selects RX12 yX12_piece yX12_piece
theorem mw_891 : wd_891 ∈ wsL_law := ci_38 _ (List.mem_of_getElem? (i := 3) rfl)
abbrev wd_892 : Cond := Cond.code yX12_piece cX12_piece 5 (some .int)
theorem mw_892 : wd_892 ∈ wsL_law := ci_38 _ (List.mem_of_getElem? (i := 4) rfl)
abbrev wd_893 : Cond := Cond.methodLink RL 109 yX11_item
theorem mw_893 : wd_893 ∈ wsL_law := ci_38 _ (List.mem_of_getElem? (i := 5) rfl)
abbrev wd_894 : Cond := Cond.instanceMethod yX11_item
theorem mw_894 : wd_894 ∈ wsL_law := ci_38 _ (List.mem_of_getElem? (i := 6) rfl)
abbrev wd_895 : Cond := Cond.selects RX11 yX11_item yX11_item
theorem mw_895 : wd_895 ∈ wsL_law := ci_38 _ (List.mem_of_getElem? (i := 7) rfl)
abbrev wd_896 : Cond := Cond.code yX11_item cX11_item 5 (some .int)
theorem mw_896 : wd_896 ∈ wsL_law := ci_38 _ (List.mem_of_getElem? (i := 8) rfl)
abbrev wd_897 : Cond := Cond.fieldLink RX11 250 "PageOne$Item" "kind" "I"
theorem mw_897 : wd_897 ∈ wsL_law := ci_38 _ (List.mem_of_getElem? (i := 9) rfl)
abbrev wd_898 : Cond := Cond.fieldLink RX11 251 "PageOne$Story" "come" "I"
theorem mw_898 : wd_898 ∈ wsL_law := ci_38 _ (List.mem_of_getElem? (i := 10) rfl)
abbrev wd_899 : Cond := Cond.methodLink RX11 257 yX11_ownerOf
theorem mw_899 : wd_899 ∈ wsL_law := ci_38 _ (List.mem_of_getElem? (i := 11) rfl)
abbrev wd_900 : Cond := Cond.instanceMethod yX11_ownerOf
theorem mw_900 : wd_900 ∈ wsL_law := ci_38 _ (List.mem_of_getElem? (i := 12) rfl)
abbrev wd_901 : Cond := Cond.selects RX11 yX11_ownerOf yX11_ownerOf
theorem mw_901 : wd_901 ∈ wsL_law := ci_38 _ (List.mem_of_getElem? (i := 13) rfl)
abbrev wd_902 : Cond := Cond.code yX11_ownerOf cX11_ownerOf 3 (some .int)
theorem mw_902 : wd_902 ∈ wsL_law := ci_38 _ (List.mem_of_getElem? (i := 14) rfl)
abbrev wd_903 : Cond := Cond.methodLink RL 112 yX12_item
theorem mw_903 : wd_903 ∈ wsL_law := ci_38 _ (List.mem_of_getElem? (i := 15) rfl)
abbrev wd_904 : Cond := Cond.instanceMethod yX12_item
theorem mw_904 : wd_904 ∈ wsL_law := ci_38 _ (List.mem_of_getElem? (i := 16) rfl)
abbrev wd_905 : Cond := Cond.selects RX12 yX12_item yX12_item
theorem mw_905 : wd_905 ∈ wsL_law := ci_38 _ (List.mem_of_getElem? (i := 17) rfl)
abbrev wd_906 : Cond := Cond.code yX12_item cX12_item 3 (some .int)
theorem mw_906 : wd_906 ∈ wsL_law := ci_38 _ (List.mem_of_getElem? (i := 18) rfl)
abbrev wd_907 : Cond := Cond.methodLink RL 113 yX11_shortOf
theorem mw_907 : wd_907 ∈ wsL_law := ci_38 _ (List.mem_of_getElem? (i := 19) rfl)
abbrev wd_908 : Cond := Cond.instanceMethod yX11_shortOf
theorem mw_908 : wd_908 ∈ wsL_law := ci_38 _ (List.mem_of_getElem? (i := 20) rfl)
abbrev wd_909 : Cond := Cond.selects RX11 yX11_shortOf yX11_shortOf
theorem mw_909 : wd_909 ∈ wsL_law := ci_38 _ (List.mem_of_getElem? (i := 21) rfl)
abbrev wd_910 : Cond := Cond.code yX11_shortOf cX11_shortOf 3 (some .int)
theorem mw_910 : wd_910 ∈ wsL_law := ci_38 _ (List.mem_of_getElem? (i := 22) rfl)
abbrev wd_911 : Cond := Cond.methodLink RX11 263 yX9_emptyIn
theorem mw_911 : wd_911 ∈ wsL_law := ci_38 _ (List.mem_of_getElem? (i := 23) rfl)
abbrev wd_912 : Cond := Cond.methodLink RL 116 yX12_shortOf
theorem mw_912 : wd_912 ∈ wsL_law := ci_39 _ (List.mem_of_getElem? (i := 0) rfl)
abbrev wd_913 : Cond := Cond.instanceMethod yX12_shortOf
theorem mw_913 : wd_913 ∈ wsL_law := ci_39 _ (List.mem_of_getElem? (i := 1) rfl)
abbrev wd_914 : Cond := Cond.selects RX12 yX12_shortOf yX12_shortOf
theorem mw_914 : wd_914 ∈ wsL_law := ci_39 _ (List.mem_of_getElem? (i := 2) rfl)
abbrev wd_915 : Cond := Cond.code yX12_shortOf cX12_shortOf 5 (some .int)
theorem mw_915 : wd_915 ∈ wsL_law := ci_39 _ (List.mem_of_getElem? (i := 3) rfl)
abbrev wd_916 : Cond := Cond.methodLink RL 117 yX11_broken
theorem mw_916 : wd_916 ∈ wsL_law := ci_39 _ (List.mem_of_getElem? (i := 4) rfl)
abbrev wd_917 : Cond := Cond.instanceMethod yX11_broken
theorem mw_917 : wd_917 ∈ wsL_law := ci_39 _ (List.mem_of_getElem? (i := 5) rfl)
abbrev wd_918 : Cond := Cond.selects RX11 yX11_broken yX11_broken
theorem mw_918 : wd_918 ∈ wsL_law := ci_39 _ (List.mem_of_getElem? (i := 6) rfl)
abbrev wd_919 : Cond := Cond.code yX11_broken cX11_broken 4 (some .int)
theorem mw_919 : wd_919 ∈ wsL_law := ci_39 _ (List.mem_of_getElem? (i := 7) rfl)
abbrev wd_920 : Cond := Cond.fieldLink RX11 266 "PageOne$Breach" "first" "I"
theorem mw_920 : wd_920 ∈ wsL_law := ci_39 _ (List.mem_of_getElem? (i := 8) rfl)
abbrev wd_921 : Cond := Cond.fieldLink RX11 269 "PageOne$Breach" "other" "I"
theorem mw_921 : wd_921 ∈ wsL_law := ci_39 _ (List.mem_of_getElem? (i := 9) rfl)
abbrev wd_922 : Cond := Cond.methodLink RL 120 yX12_broken
theorem mw_922 : wd_922 ∈ wsL_law := ci_39 _ (List.mem_of_getElem? (i := 10) rfl)
abbrev wd_923 : Cond := Cond.instanceMethod yX12_broken
theorem mw_923 : wd_923 ∈ wsL_law := ci_39 _ (List.mem_of_getElem? (i := 11) rfl)
abbrev wd_924 : Cond := Cond.selects RX12 yX12_broken yX12_broken
theorem mw_924 : wd_924 ∈ wsL_law := ci_39 _ (List.mem_of_getElem? (i := 12) rfl)
abbrev wd_925 : Cond := Cond.code yX12_broken cX12_broken 3 (some .int)
theorem mw_925 : wd_925 ∈ wsL_law := ci_39 _ (List.mem_of_getElem? (i := 13) rfl)
abbrev wd_926 : Cond := Cond.methodLink RL 121 yX11_printed
theorem mw_926 : wd_926 ∈ wsL_law := ci_39 _ (List.mem_of_getElem? (i := 14) rfl)
abbrev wd_927 : Cond := Cond.instanceMethod yX11_printed
theorem mw_927 : wd_927 ∈ wsL_law := ci_39 _ (List.mem_of_getElem? (i := 15) rfl)
abbrev wd_928 : Cond := Cond.selects RX11 yX11_printed yX11_printed
theorem mw_928 : wd_928 ∈ wsL_law := ci_39 _ (List.mem_of_getElem? (i := 16) rfl)
abbrev wd_929 : Cond := Cond.code yX11_printed cX11_printed 4 (some .int)
theorem mw_929 : wd_929 ∈ wsL_law := ci_39 _ (List.mem_of_getElem? (i := 17) rfl)
abbrev wd_930 : Cond := Cond.methodLink RL 124 yX12_printed
theorem mw_930 : wd_930 ∈ wsL_law := ci_39 _ (List.mem_of_getElem? (i := 18) rfl)
abbrev wd_931 : Cond := Cond.methodLink RL 125 yX11_plated
theorem mw_931 : wd_931 ∈ wsL_law := ci_39 _ (List.mem_of_getElem? (i := 19) rfl)
abbrev wd_932 : Cond := Cond.instanceMethod yX11_plated
theorem mw_932 : wd_932 ∈ wsL_law := ci_39 _ (List.mem_of_getElem? (i := 20) rfl)
abbrev wd_933 : Cond := Cond.selects RX11 yX11_plated yX11_plated
theorem mw_933 : wd_933 ∈ wsL_law := ci_39 _ (List.mem_of_getElem? (i := 21) rfl)
abbrev wd_934 : Cond := Cond.code yX11_plated cX11_plated 4 (some .int)
theorem mw_934 : wd_934 ∈ wsL_law := ci_39 _ (List.mem_of_getElem? (i := 22) rfl)
abbrev wd_935 : Cond := Cond.methodLink RL 128 yX12_plated
theorem mw_935 : wd_935 ∈ wsL_law := ci_39 _ (List.mem_of_getElem? (i := 23) rfl)
abbrev wd_936 : Cond := Cond.instanceMethod yX12_plated
theorem mw_936 : wd_936 ∈ wsL_law := ci_40 _ (List.mem_of_getElem? (i := 0) rfl)
abbrev wd_937 : Cond := Cond.selects RX12 yX12_plated yX12_plated
theorem mw_937 : wd_937 ∈ wsL_law := ci_40 _ (List.mem_of_getElem? (i := 1) rfl)
abbrev wd_938 : Cond := Cond.code yX12_plated cX12_plated 4 (some .int)
theorem mw_938 : wd_938 ∈ wsL_law := ci_40 _ (List.mem_of_getElem? (i := 2) rfl)
abbrev wd_939 : Cond := Cond.methodLink RL 129 yX11_plateOf
theorem mw_939 : wd_939 ∈ wsL_law := ci_40 _ (List.mem_of_getElem? (i := 3) rfl)
abbrev wd_940 : Cond := Cond.instanceMethod yX11_plateOf
theorem mw_940 : wd_940 ∈ wsL_law := ci_40 _ (List.mem_of_getElem? (i := 4) rfl)
abbrev wd_941 : Cond := Cond.selects RX11 yX11_plateOf yX11_plateOf
theorem mw_941 : wd_941 ∈ wsL_law := ci_40 _ (List.mem_of_getElem? (i := 5) rfl)
abbrev wd_942 : Cond := Cond.code yX11_plateOf cX11_plateOf 3 (some .int)
theorem mw_942 : wd_942 ∈ wsL_law := ci_40 _ (List.mem_of_getElem? (i := 6) rfl)
abbrev wd_943 : Cond := Cond.methodLink RL 132 yX12_plateOf
theorem mw_943 : wd_943 ∈ wsL_law := ci_40 _ (List.mem_of_getElem? (i := 7) rfl)
abbrev wd_944 : Cond := Cond.instanceMethod yX12_plateOf
theorem mw_944 : wd_944 ∈ wsL_law := ci_40 _ (List.mem_of_getElem? (i := 8) rfl)
abbrev wd_945 : Cond := Cond.selects RX12 yX12_plateOf yX12_plateOf
theorem mw_945 : wd_945 ∈ wsL_law := ci_40 _ (List.mem_of_getElem? (i := 9) rfl)
abbrev wd_946 : Cond := Cond.code yX12_plateOf cX12_plateOf 3 (some .int)
theorem mw_946 : wd_946 ∈ wsL_law := ci_40 _ (List.mem_of_getElem? (i := 10) rfl)
abbrev wd_947 : Cond := Cond.methodLink RL 133 yX11_bill
theorem mw_947 : wd_947 ∈ wsL_law := ci_40 _ (List.mem_of_getElem? (i := 11) rfl)
abbrev wd_948 : Cond := Cond.instanceMethod yX11_bill
theorem mw_948 : wd_948 ∈ wsL_law := ci_40 _ (List.mem_of_getElem? (i := 12) rfl)
abbrev wd_949 : Cond := Cond.selects RX11 yX11_bill yX11_bill
theorem mw_949 : wd_949 ∈ wsL_law := ci_40 _ (List.mem_of_getElem? (i := 13) rfl)
abbrev wd_950 : Cond := Cond.code yX11_bill cX11_bill 7 (some .int)
theorem mw_950 : wd_950 ∈ wsL_law := ci_40 _ (List.mem_of_getElem? (i := 14) rfl)
abbrev wd_951 : Cond := Cond.methodLink RX11 275 yX11_wasPrintedOn
theorem mw_951 : wd_951 ∈ wsL_law := ci_40 _ (List.mem_of_getElem? (i := 15) rfl)
abbrev wd_952 : Cond := Cond.instanceMethod yX11_wasPrintedOn
theorem mw_952 : wd_952 ∈ wsL_law := ci_40 _ (List.mem_of_getElem? (i := 16) rfl)
abbrev wd_953 : Cond := Cond.selects RX11 yX11_wasPrintedOn yX11_wasPrintedOn
theorem mw_953 : wd_953 ∈ wsL_law := ci_40 _ (List.mem_of_getElem? (i := 17) rfl)
abbrev wd_954 : Cond := Cond.code yX11_wasPrintedOn cX11_wasPrintedOn 4 (some .boolean)
theorem mw_954 : wd_954 ∈ wsL_law := ci_40 _ (List.mem_of_getElem? (i := 18) rfl)
abbrev wd_955 : Cond := Cond.fieldLink RX11 394 "PageOne$Paid" "spot" "LPageOne$Piece;"
theorem mw_955 : wd_955 ∈ wsL_law := ci_40 _ (List.mem_of_getElem? (i := 19) rfl)
abbrev wd_956 : Cond := Cond.fieldLink RX11 397 "PageOne$Paid" "number" "I"
theorem mw_956 : wd_956 ∈ wsL_law := ci_40 _ (List.mem_of_getElem? (i := 20) rfl)
abbrev wd_957 : Cond := Cond.sameField "PageOne$Paid" "PageOne$Item" "number" "I"
theorem mw_957 : wd_957 ∈ wsL_law := ci_40 _ (List.mem_of_getElem? (i := 21) rfl)
abbrev wd_958 : Cond := Cond.methodLink RX11 279 yX6_cost
theorem mw_958 : wd_958 ∈ wsL_law := ci_40 _ (List.mem_of_getElem? (i := 22) rfl)
abbrev wd_959 : Cond := Cond.instanceMethod yX6_cost
theorem mw_959 : wd_959 ∈ wsL_law := ci_40 _ (List.mem_of_getElem? (i := 23) rfl)
abbrev wd_960 : Cond := Cond.selects RX6 yX6_cost yX6_cost
theorem mw_960 : wd_960 ∈ wsL_law := ci_41 _ (List.mem_of_getElem? (i := 0) rfl)
abbrev wd_961 : Cond := Cond.code yX6_cost cX6_cost 1 (some .int)
theorem mw_961 : wd_961 ∈ wsL_law := ci_41 _ (List.mem_of_getElem? (i := 1) rfl)
abbrev wd_962 : Cond := Cond.methodLink RL 136 yX12_bill
theorem mw_962 : wd_962 ∈ wsL_law := ci_41 _ (List.mem_of_getElem? (i := 2) rfl)
abbrev wd_963 : Cond := Cond.instanceMethod yX12_bill
theorem mw_963 : wd_963 ∈ wsL_law := ci_41 _ (List.mem_of_getElem? (i := 3) rfl)
abbrev wd_964 : Cond := Cond.selects RX12 yX12_bill yX12_bill
theorem mw_964 : wd_964 ∈ wsL_law := ci_41 _ (List.mem_of_getElem? (i := 4) rfl)
abbrev wd_965 : Cond := Cond.code yX12_bill cX12_bill 7 (some .int)
theorem mw_965 : wd_965 ∈ wsL_law := ci_41 _ (List.mem_of_getElem? (i := 5) rfl)
abbrev wd_966 : Cond := Cond.methodLink RL 137 yX11_about
theorem mw_966 : wd_966 ∈ wsL_law := ci_41 _ (List.mem_of_getElem? (i := 6) rfl)
abbrev wd_967 : Cond := Cond.instanceMethod yX11_about
theorem mw_967 : wd_967 ∈ wsL_law := ci_41 _ (List.mem_of_getElem? (i := 7) rfl)
abbrev wd_968 : Cond := Cond.selects RX11 yX11_about yX11_about
theorem mw_968 : wd_968 ∈ wsL_law := ci_41 _ (List.mem_of_getElem? (i := 8) rfl)
abbrev wd_969 : Cond := Cond.code yX11_about cX11_about 2 (some .int)
theorem mw_969 : wd_969 ∈ wsL_law := ci_41 _ (List.mem_of_getElem? (i := 9) rfl)
abbrev wd_970 : Cond := Cond.methodLink RX11 282 yX11_freshPlates
theorem mw_970 : wd_970 ∈ wsL_law := ci_41 _ (List.mem_of_getElem? (i := 10) rfl)
abbrev wd_971 : Cond := Cond.instanceMethod yX11_freshPlates
theorem mw_971 : wd_971 ∈ wsL_law := ci_41 _ (List.mem_of_getElem? (i := 11) rfl)
abbrev wd_972 : Cond := Cond.selects RX11 yX11_freshPlates yX11_freshPlates
theorem mw_972 : wd_972 ∈ wsL_law := ci_41 _ (List.mem_of_getElem? (i := 12) rfl)
abbrev wd_973 : Cond := Cond.code yX11_freshPlates cX11_freshPlates 3 (some .int)
theorem mw_973 : wd_973 ∈ wsL_law := ci_41 _ (List.mem_of_getElem? (i := 13) rfl)
abbrev wd_974 : Cond := Cond.methodLink RL 140 yX12_about
theorem mw_974 : wd_974 ∈ wsL_law := ci_41 _ (List.mem_of_getElem? (i := 14) rfl)
abbrev wd_975 : Cond := Cond.instanceMethod yX12_about
theorem mw_975 : wd_975 ∈ wsL_law := ci_41 _ (List.mem_of_getElem? (i := 15) rfl)
abbrev wd_976 : Cond := Cond.selects RX12 yX12_about yX12_about
theorem mw_976 : wd_976 ∈ wsL_law := ci_41 _ (List.mem_of_getElem? (i := 16) rfl)
abbrev wd_977 : Cond := Cond.code yX12_about cX12_about 4 (some .int)
theorem mw_977 : wd_977 ∈ wsL_law := ci_41 _ (List.mem_of_getElem? (i := 17) rfl)
abbrev wd_978 : Cond := u_lay RX11 TX11 0
theorem mw_978 : wd_978 ∈ wsL_law := inlX11 _ (List.mem_of_getElem? (i := 0) rfl)
abbrev wd_979 : Cond := u_lay RX11 TX11 1
theorem mw_979 : wd_979 ∈ wsL_law := inlX11 _ (List.mem_of_getElem? (i := 1) rfl)
abbrev wd_980 : Cond := u_lay RX11 TX11 2
theorem mw_980 : wd_980 ∈ wsL_law := inlX11 _ (List.mem_of_getElem? (i := 2) rfl)
abbrev wd_981 : Cond := u_lay RX11 TX11 3
theorem mw_981 : wd_981 ∈ wsL_law := inlX11 _ (List.mem_of_getElem? (i := 3) rfl)
abbrev wd_982 : Cond := u_lay RX11 TX11 4
theorem mw_982 : wd_982 ∈ wsL_law := inlX11 _ (List.mem_of_getElem? (i := 4) rfl)
abbrev wd_983 : Cond := u_lay RX11 TX11 5
theorem mw_983 : wd_983 ∈ wsL_law := inlX11 _ (List.mem_of_getElem? (i := 5) rfl)
abbrev wd_984 : Cond := u_lay RX11 TX11 6
theorem mw_984 : wd_984 ∈ wsL_law := inlX11 _ (List.mem_of_getElem? (i := 6) rfl)
abbrev wd_985 : Cond := u_lay RX11 TX11 7
theorem mw_985 : wd_985 ∈ wsL_law := inlX11 _ (List.mem_of_getElem? (i := 7) rfl)
abbrev wd_986 : Cond := u_lay RX11 TX11 8
theorem mw_986 : wd_986 ∈ wsL_law := inlX11 _ (List.mem_of_getElem? (i := 8) rfl)
abbrev wd_987 : Cond := u_lay RX12 TX12 0
theorem mw_987 : wd_987 ∈ wsL_law := inlX12 _ (List.mem_of_getElem? (i := 0) rfl)
abbrev wd_988 : Cond := u_lay RX12 TX12 1
theorem mw_988 : wd_988 ∈ wsL_law := inlX12 _ (List.mem_of_getElem? (i := 1) rfl)
abbrev wd_989 : Cond := u_lay RX12 TX12 2
theorem mw_989 : wd_989 ∈ wsL_law := inlX12 _ (List.mem_of_getElem? (i := 2) rfl)
abbrev wd_990 : Cond := u_lay RX12 TX12 3
theorem mw_990 : wd_990 ∈ wsL_law := inlX12 _ (List.mem_of_getElem? (i := 3) rfl)
abbrev wd_991 : Cond := u_lay RX12 TX12 4
theorem mw_991 : wd_991 ∈ wsL_law := inlX12 _ (List.mem_of_getElem? (i := 4) rfl)
abbrev wd_992 : Cond := u_lay RX12 TX12 5
theorem mw_992 : wd_992 ∈ wsL_law := inlX12 _ (List.mem_of_getElem? (i := 5) rfl)
abbrev wd_993 : Cond := u_lay RX12 TX12 6
theorem mw_993 : wd_993 ∈ wsL_law := inlX12 _ (List.mem_of_getElem? (i := 6) rfl)
abbrev wd_994 : Cond := u_lay RX12 TX12 7
theorem mw_994 : wd_994 ∈ wsL_law := inlX12 _ (List.mem_of_getElem? (i := 7) rfl)
abbrev wd_995 : Cond := u_lay RX12 TX12 8
theorem mw_995 : wd_995 ∈ wsL_law := inlX12 _ (List.mem_of_getElem? (i := 8) rfl)
abbrev wd_996 : Cond := u_lay RX12 TX12 9
theorem mw_996 : wd_996 ∈ wsL_law := inlX12 _ (List.mem_of_getElem? (i := 9) rfl)
abbrev wd_997 : Cond := u_lay RX12 TX12 10
theorem mw_997 : wd_997 ∈ wsL_law := inlX12 _ (List.mem_of_getElem? (i := 10) rfl)
abbrev wd_998 : Cond := u_lay RX12 TX12 11
theorem mw_998 : wd_998 ∈ wsL_law := inlX12 _ (List.mem_of_getElem? (i := 11) rfl)
abbrev wd_999 : Cond := u_lay RX12 TX12 12
theorem mw_999 : wd_999 ∈ wsL_law := inlX12 _ (List.mem_of_getElem? (i := 12) rfl)
abbrev wd_1000 : Cond := u_lay RX12 TX12 13
theorem mw_1000 : wd_1000 ∈ wsL_law := inlX12 _ (List.mem_of_getElem? (i := 13) rfl)
abbrev wd_1001 : Cond := u_lay RX12 TX12 14
theorem mw_1001 : wd_1001 ∈ wsL_law := inlX12 _ (List.mem_of_getElem? (i := 14) rfl)
abbrev wd_1002 : Cond := u_lay RX12 TX12 15
theorem mw_1002 : wd_1002 ∈ wsL_law := inlX12 _ (List.mem_of_getElem? (i := 15) rfl)
abbrev wd_1003 : Cond := u_lay RX12 TX12 16
theorem mw_1003 : wd_1003 ∈ wsL_law := inlX12 _ (List.mem_of_getElem? (i := 16) rfl)
abbrev wd_1004 : Cond := u_lay RX12 TX12 17
theorem mw_1004 : wd_1004 ∈ wsL_law := inlX12 _ (List.mem_of_getElem? (i := 17) rfl)
abbrev wd_1005 : Cond := u_lay RX12 TX12 18
theorem mw_1005 : wd_1005 ∈ wsL_law := inlX12 _ (List.mem_of_getElem? (i := 18) rfl)
abbrev wd_1006 : Cond := u_lay RX12 TX12 19
theorem mw_1006 : wd_1006 ∈ wsL_law := inlX12 _ (List.mem_of_getElem? (i := 19) rfl)
abbrev wd_1007 : Cond := u_lay RX12 TX12 20
theorem mw_1007 : wd_1007 ∈ wsL_law := inlX12 _ (List.mem_of_getElem? (i := 20) rfl)
abbrev wd_1008 : Cond := u_lay RX12 TX12 21
theorem mw_1008 : wd_1008 ∈ wsL_law := inlX12 _ (List.mem_of_getElem? (i := 21) rfl)
abbrev wd_1009 : Cond := u_lay RX12 TX12 22
theorem mw_1009 : wd_1009 ∈ wsL_law := inlX12 _ (List.mem_of_getElem? (i := 22) rfl)
abbrev wd_1010 : Cond := u_lay RX12 TX12 23
theorem mw_1010 : wd_1010 ∈ wsL_law := inlX12 _ (List.mem_of_getElem? (i := 23) rfl)
abbrev wd_1011 : Cond := u_lay RX12 TX12 24
theorem mw_1011 : wd_1011 ∈ wsL_law := inlX12 _ (List.mem_of_getElem? (i := 24) rfl)
abbrev wd_1012 : Cond := u_lay RX12 TX12 25
theorem mw_1012 : wd_1012 ∈ wsL_law := inlX12 _ (List.mem_of_getElem? (i := 25) rfl)
abbrev wd_1013 : Cond := u_lay RX12 TX12 26
theorem mw_1013 : wd_1013 ∈ wsL_law := inlX12 _ (List.mem_of_getElem? (i := 26) rfl)
abbrev wd_1014 : Cond := u_lay RX12 TX12 27
theorem mw_1014 : wd_1014 ∈ wsL_law := inlX12 _ (List.mem_of_getElem? (i := 27) rfl)
abbrev wd_1015 : Cond := u_lay RX12 TX12 28
theorem mw_1015 : wd_1015 ∈ wsL_law := inlX12 _ (List.mem_of_getElem? (i := 28) rfl)
abbrev wd_1016 : Cond := u_lay RX12 TX12 29
theorem mw_1016 : wd_1016 ∈ wsL_law := inlX12 _ (List.mem_of_getElem? (i := 29) rfl)
abbrev wd_1017 : Cond := u_lay RX12 TX12 30
theorem mw_1017 : wd_1017 ∈ wsL_law := inlX12 _ (List.mem_of_getElem? (i := 30) rfl)
abbrev wd_1018 : Cond := u_lay RX12 TX12 31
theorem mw_1018 : wd_1018 ∈ wsL_law := inlX12 _ (List.mem_of_getElem? (i := 31) rfl)
abbrev wd_1019 : Cond := u_lay RX12 TX12 32
theorem mw_1019 : wd_1019 ∈ wsL_law := inlX12 _ (List.mem_of_getElem? (i := 32) rfl)
abbrev wd_1020 : Cond := u_lay RX12 TX12 33
theorem mw_1020 : wd_1020 ∈ wsL_law := inlX12 _ (List.mem_of_getElem? (i := 33) rfl)
abbrev wd_1021 : Cond := u_lay RX12 TX12 34
theorem mw_1021 : wd_1021 ∈ wsL_law := inlX12 _ (List.mem_of_getElem? (i := 34) rfl)
abbrev wd_1022 : Cond := u_lay RX12 TX12 35
theorem mw_1022 : wd_1022 ∈ wsL_law := inlX12 _ (List.mem_of_getElem? (i := 35) rfl)
abbrev wd_1023 : Cond := u_lay RX12 TX12 36
theorem mw_1023 : wd_1023 ∈ wsL_law := inlX12 _ (List.mem_of_getElem? (i := 36) rfl)
abbrev wd_1024 : Cond := u_lay RX12 TX12 37
theorem mw_1024 : wd_1024 ∈ wsL_law := inlX12 _ (List.mem_of_getElem? (i := 37) rfl)
abbrev wd_1025 : Cond := u_lay RX12 TX12 38
theorem mw_1025 : wd_1025 ∈ wsL_law := inlX12 _ (List.mem_of_getElem? (i := 38) rfl)
abbrev wd_1026 : Cond := u_lay RX12 TX12 39
theorem mw_1026 : wd_1026 ∈ wsL_law := inlX12 _ (List.mem_of_getElem? (i := 39) rfl)
abbrev wd_1027 : Cond := u_lay RX12 TX12 40
theorem mw_1027 : wd_1027 ∈ wsL_law := inlX12 _ (List.mem_of_getElem? (i := 40) rfl)
abbrev wd_1028 : Cond := u_lay RX12 TX12 41
theorem mw_1028 : wd_1028 ∈ wsL_law := inlX12 _ (List.mem_of_getElem? (i := 41) rfl)
abbrev wd_1029 : Cond := u_lay RX12 TX12 42
theorem mw_1029 : wd_1029 ∈ wsL_law := inlX12 _ (List.mem_of_getElem? (i := 42) rfl)
abbrev wd_1030 : Cond := u_lay RX12 TX12 43
theorem mw_1030 : wd_1030 ∈ wsL_law := inlX12 _ (List.mem_of_getElem? (i := 43) rfl)
abbrev wd_1031 : Cond := u_lay RX12 TX12 44
theorem mw_1031 : wd_1031 ∈ wsL_law := inlX12 _ (List.mem_of_getElem? (i := 44) rfl)
abbrev wd_1032 : Cond := u_lay RX12 TX12 45
theorem mw_1032 : wd_1032 ∈ wsL_law := inlX12 _ (List.mem_of_getElem? (i := 45) rfl)
abbrev wd_1033 : Cond := u_lay RX12 TX12 46
theorem mw_1033 : wd_1033 ∈ wsL_law := inlX12 _ (List.mem_of_getElem? (i := 46) rfl)
abbrev wd_1034 : Cond := u_lay RX12 TX12 47
theorem mw_1034 : wd_1034 ∈ wsL_law := inlX12 _ (List.mem_of_getElem? (i := 47) rfl)
abbrev wd_1035 : Cond := u_lay RX12 TX12 48
theorem mw_1035 : wd_1035 ∈ wsL_law := inlX12 _ (List.mem_of_getElem? (i := 48) rfl)
abbrev wd_1036 : Cond := u_lay RX12 TX12 49
theorem mw_1036 : wd_1036 ∈ wsL_law := inlX12 _ (List.mem_of_getElem? (i := 49) rfl)
abbrev wd_1037 : Cond := u_lay RX12 TX12 50
theorem mw_1037 : wd_1037 ∈ wsL_law := inlX12 _ (List.mem_of_getElem? (i := 50) rfl)
abbrev wd_1038 : Cond := u_lay RX12 TX12 51
theorem mw_1038 : wd_1038 ∈ wsL_law := inlX12 _ (List.mem_of_getElem? (i := 51) rfl)
abbrev wd_1039 : Cond := u_lay RX9 TX9 0
theorem mw_1039 : wd_1039 ∈ wsL_law := inlX9 _ (List.mem_of_getElem? (i := 0) rfl)
abbrev wd_1040 : Cond := u_lay RX9 TX9 1
theorem mw_1040 : wd_1040 ∈ wsL_law := inlX9 _ (List.mem_of_getElem? (i := 1) rfl)
abbrev wd_1041 : Cond := u_lay RX9 TX9 2
theorem mw_1041 : wd_1041 ∈ wsL_law := inlX9 _ (List.mem_of_getElem? (i := 2) rfl)
abbrev wd_1042 : Cond := u_lay RX9 TX9 3
theorem mw_1042 : wd_1042 ∈ wsL_law := inlX9 _ (List.mem_of_getElem? (i := 3) rfl)
abbrev wd_1043 : Cond := u_lay RX9 TX9 4
theorem mw_1043 : wd_1043 ∈ wsL_law := inlX9 _ (List.mem_of_getElem? (i := 4) rfl)
abbrev wd_1044 : Cond := u_lay RX10 TX10 0
theorem mw_1044 : wd_1044 ∈ wsL_law := inlX10 _ (List.mem_of_getElem? (i := 0) rfl)
abbrev wd_1045 : Cond := u_lay RX10 TX10 1
theorem mw_1045 : wd_1045 ∈ wsL_law := inlX10 _ (List.mem_of_getElem? (i := 1) rfl)
abbrev wd_1046 : Cond := u_lay RX10 TX10 2
theorem mw_1046 : wd_1046 ∈ wsL_law := inlX10 _ (List.mem_of_getElem? (i := 2) rfl)
abbrev wd_1047 : Cond := u_lay RX10 TX10 3
theorem mw_1047 : wd_1047 ∈ wsL_law := inlX10 _ (List.mem_of_getElem? (i := 3) rfl)
abbrev wd_1048 : Cond := u_lay RX10 TX10 4
theorem mw_1048 : wd_1048 ∈ wsL_law := inlX10 _ (List.mem_of_getElem? (i := 4) rfl)
abbrev wd_1049 : Cond := u_lay RX10 TX10 5
theorem mw_1049 : wd_1049 ∈ wsL_law := inlX10 _ (List.mem_of_getElem? (i := 5) rfl)
abbrev wd_1050 : Cond := u_lay RX10 TX10 6
theorem mw_1050 : wd_1050 ∈ wsL_law := inlX10 _ (List.mem_of_getElem? (i := 6) rfl)
abbrev wd_1051 : Cond := u_lay RX10 TX10 7
theorem mw_1051 : wd_1051 ∈ wsL_law := inlX10 _ (List.mem_of_getElem? (i := 7) rfl)
abbrev wd_1052 : Cond := u_lay RX10 TX10 8
theorem mw_1052 : wd_1052 ∈ wsL_law := inlX10 _ (List.mem_of_getElem? (i := 8) rfl)
abbrev wd_1053 : Cond := u_lay RX2 TX2 0
theorem mw_1053 : wd_1053 ∈ wsL_law := inlX2 _ (List.mem_of_getElem? (i := 0) rfl)
abbrev wd_1054 : Cond := u_lay RX2 TX2 1
theorem mw_1054 : wd_1054 ∈ wsL_law := inlX2 _ (List.mem_of_getElem? (i := 1) rfl)
abbrev wd_1055 : Cond := u_lay RX2 TX2 2
theorem mw_1055 : wd_1055 ∈ wsL_law := inlX2 _ (List.mem_of_getElem? (i := 2) rfl)
abbrev wd_1056 : Cond := u_lay RX2 TX2 3
theorem mw_1056 : wd_1056 ∈ wsL_law := inlX2 _ (List.mem_of_getElem? (i := 3) rfl)
abbrev wd_1057 : Cond := u_lay RX2 TX2 4
theorem mw_1057 : wd_1057 ∈ wsL_law := inlX2 _ (List.mem_of_getElem? (i := 4) rfl)
abbrev wd_1058 : Cond := u_lay RX2 TX2 5
theorem mw_1058 : wd_1058 ∈ wsL_law := inlX2 _ (List.mem_of_getElem? (i := 5) rfl)
abbrev wd_1059 : Cond := u_lay RX2 TX2 6
theorem mw_1059 : wd_1059 ∈ wsL_law := inlX2 _ (List.mem_of_getElem? (i := 6) rfl)
abbrev wd_1060 : Cond := u_lay RX3 TX3 0
theorem mw_1060 : wd_1060 ∈ wsL_law := inlX3 _ (List.mem_of_getElem? (i := 0) rfl)
abbrev wd_1061 : Cond := u_lay RX3 TX3 1
theorem mw_1061 : wd_1061 ∈ wsL_law := inlX3 _ (List.mem_of_getElem? (i := 1) rfl)
abbrev wd_1062 : Cond := u_lay RX3 TX3 2
theorem mw_1062 : wd_1062 ∈ wsL_law := inlX3 _ (List.mem_of_getElem? (i := 2) rfl)
abbrev wd_1063 : Cond := u_lay RX3 TX3 3
theorem mw_1063 : wd_1063 ∈ wsL_law := inlX3 _ (List.mem_of_getElem? (i := 3) rfl)
abbrev wd_1064 : Cond := u_lay RX3 TX3 4
theorem mw_1064 : wd_1064 ∈ wsL_law := inlX3 _ (List.mem_of_getElem? (i := 4) rfl)
abbrev wd_1065 : Cond := u_lay RX3 TX3 5
theorem mw_1065 : wd_1065 ∈ wsL_law := inlX3 _ (List.mem_of_getElem? (i := 5) rfl)
abbrev wd_1066 : Cond := u_lay RX3 TX3 6
theorem mw_1066 : wd_1066 ∈ wsL_law := inlX3 _ (List.mem_of_getElem? (i := 6) rfl)
abbrev wd_1067 : Cond := u_lay RX3 TX3 7
theorem mw_1067 : wd_1067 ∈ wsL_law := inlX3 _ (List.mem_of_getElem? (i := 7) rfl)
abbrev wd_1068 : Cond := u_lay RX5 TX5 0
theorem mw_1068 : wd_1068 ∈ wsL_law := inlX5 _ (List.mem_of_getElem? (i := 0) rfl)
abbrev wd_1069 : Cond := u_lay RX5 TX5 1
theorem mw_1069 : wd_1069 ∈ wsL_law := inlX5 _ (List.mem_of_getElem? (i := 1) rfl)
abbrev wd_1070 : Cond := u_lay RX5 TX5 2
theorem mw_1070 : wd_1070 ∈ wsL_law := inlX5 _ (List.mem_of_getElem? (i := 2) rfl)
abbrev wd_1071 : Cond := u_lay RX5 TX5 3
theorem mw_1071 : wd_1071 ∈ wsL_law := inlX5 _ (List.mem_of_getElem? (i := 3) rfl)
abbrev wd_1072 : Cond := u_lay RX5 TX5 4
theorem mw_1072 : wd_1072 ∈ wsL_law := inlX5 _ (List.mem_of_getElem? (i := 4) rfl)
abbrev wd_1073 : Cond := u_lay RX5 TX5 5
theorem mw_1073 : wd_1073 ∈ wsL_law := inlX5 _ (List.mem_of_getElem? (i := 5) rfl)
abbrev wd_1074 : Cond := u_lay RX5 TX5 6
theorem mw_1074 : wd_1074 ∈ wsL_law := inlX5 _ (List.mem_of_getElem? (i := 6) rfl)
abbrev wd_1075 : Cond := u_lay RX6 TX6 0
theorem mw_1075 : wd_1075 ∈ wsL_law := inlX6 _ (List.mem_of_getElem? (i := 0) rfl)
abbrev wd_1076 : Cond := u_lay RX6 TX6 1
theorem mw_1076 : wd_1076 ∈ wsL_law := inlX6 _ (List.mem_of_getElem? (i := 1) rfl)
abbrev wd_1077 : Cond := u_lay RX6 TX6 2
theorem mw_1077 : wd_1077 ∈ wsL_law := inlX6 _ (List.mem_of_getElem? (i := 2) rfl)
abbrev wd_1078 : Cond := u_lay RX6 TX6 3
theorem mw_1078 : wd_1078 ∈ wsL_law := inlX6 _ (List.mem_of_getElem? (i := 3) rfl)
abbrev wd_1079 : Cond := u_lay RX6 TX6 4
theorem mw_1079 : wd_1079 ∈ wsL_law := inlX6 _ (List.mem_of_getElem? (i := 4) rfl)
abbrev wd_1080 : Cond := u_lay RX6 TX6 5
theorem mw_1080 : wd_1080 ∈ wsL_law := inlX6 _ (List.mem_of_getElem? (i := 5) rfl)
abbrev wd_1081 : Cond := u_lay RX6 TX6 6
theorem mw_1081 : wd_1081 ∈ wsL_law := inlX6 _ (List.mem_of_getElem? (i := 6) rfl)
abbrev wd_1082 : Cond := u_lay RX6 TX6 7
theorem mw_1082 : wd_1082 ∈ wsL_law := inlX6 _ (List.mem_of_getElem? (i := 7) rfl)
abbrev wd_1083 : Cond := u_lay RX6 TX6 8
theorem mw_1083 : wd_1083 ∈ wsL_law := inlX6 _ (List.mem_of_getElem? (i := 8) rfl)
abbrev wd_1084 : Cond := u_lay RX7 TX7 0
theorem mw_1084 : wd_1084 ∈ wsL_law := inlX7 _ (List.mem_of_getElem? (i := 0) rfl)
abbrev wd_1085 : Cond := u_lay RX7 TX7 1
theorem mw_1085 : wd_1085 ∈ wsL_law := inlX7 _ (List.mem_of_getElem? (i := 1) rfl)
abbrev wd_1086 : Cond := u_lay RX7 TX7 2
theorem mw_1086 : wd_1086 ∈ wsL_law := inlX7 _ (List.mem_of_getElem? (i := 2) rfl)
abbrev wd_1087 : Cond := u_lay RX7 TX7 3
theorem mw_1087 : wd_1087 ∈ wsL_law := inlX7 _ (List.mem_of_getElem? (i := 3) rfl)
abbrev wd_1088 : Cond := u_lay RX7 TX7 4
theorem mw_1088 : wd_1088 ∈ wsL_law := inlX7 _ (List.mem_of_getElem? (i := 4) rfl)
abbrev wd_1089 : Cond := u_lay RX7 TX7 5
theorem mw_1089 : wd_1089 ∈ wsL_law := inlX7 _ (List.mem_of_getElem? (i := 5) rfl)
abbrev wd_1090 : Cond := u_lay RX7 TX7 6
theorem mw_1090 : wd_1090 ∈ wsL_law := inlX7 _ (List.mem_of_getElem? (i := 6) rfl)
abbrev wd_1091 : Cond := u_lay RX7 TX7 7
theorem mw_1091 : wd_1091 ∈ wsL_law := inlX7 _ (List.mem_of_getElem? (i := 7) rfl)
abbrev wd_1092 : Cond := u_lay RX8 TX8 0
theorem mw_1092 : wd_1092 ∈ wsL_law := inlX8 _ (List.mem_of_getElem? (i := 0) rfl)
abbrev wd_1093 : Cond := u_lay RX8 TX8 1
theorem mw_1093 : wd_1093 ∈ wsL_law := inlX8 _ (List.mem_of_getElem? (i := 1) rfl)
abbrev wd_1094 : Cond := u_lay RX8 TX8 2
theorem mw_1094 : wd_1094 ∈ wsL_law := inlX8 _ (List.mem_of_getElem? (i := 2) rfl)
abbrev wd_1095 : Cond := u_lay RX8 TX8 3
theorem mw_1095 : wd_1095 ∈ wsL_law := inlX8 _ (List.mem_of_getElem? (i := 3) rfl)
abbrev wd_1096 : Cond := u_lay RX8 TX8 4
theorem mw_1096 : wd_1096 ∈ wsL_law := inlX8 _ (List.mem_of_getElem? (i := 4) rfl)
abbrev wd_1097 : Cond := u_lay RX8 TX8 5
theorem mw_1097 : wd_1097 ∈ wsL_law := inlX8 _ (List.mem_of_getElem? (i := 5) rfl)
abbrev wd_1098 : Cond := u_lay RX0 TX0 0
theorem mw_1098 : wd_1098 ∈ wsL_law := inlX0 _ (List.mem_of_getElem? (i := 0) rfl)
abbrev wd_1099 : Cond := u_lay RX0 TX0 1
theorem mw_1099 : wd_1099 ∈ wsL_law := inlX0 _ (List.mem_of_getElem? (i := 1) rfl)
abbrev wd_1100 : Cond := u_lay RX0 TX0 2
theorem mw_1100 : wd_1100 ∈ wsL_law := inlX0 _ (List.mem_of_getElem? (i := 2) rfl)
abbrev wd_1101 : Cond := u_lay RX0 TX0 3
theorem mw_1101 : wd_1101 ∈ wsL_law := inlX0 _ (List.mem_of_getElem? (i := 3) rfl)
abbrev wd_1102 : Cond := u_lay RX1 TX1 0
theorem mw_1102 : wd_1102 ∈ wsL_law := inlX1 _ (List.mem_of_getElem? (i := 0) rfl)
abbrev wd_1103 : Cond := u_lay RX1 TX1 1
theorem mw_1103 : wd_1103 ∈ wsL_law := inlX1 _ (List.mem_of_getElem? (i := 1) rfl)
abbrev wd_1104 : Cond := u_lay RX1 TX1 2
theorem mw_1104 : wd_1104 ∈ wsL_law := inlX1 _ (List.mem_of_getElem? (i := 2) rfl)

theorem wr1 : ∀ w ∈ wsL_law_r1, w ∈ wsL_law := fun _ h => List.mem_append_left _ (List.mem_append_left _ (List.mem_append_left _ (List.mem_append_left _ (List.mem_append_left _ (List.mem_append_left _ (List.mem_append_left _ (List.mem_append_left _ (List.mem_append_left _ (List.mem_append_left _ (List.mem_append_left _ (List.mem_append_left _ (List.mem_append_left _ (List.mem_append_left _ (h))))))))))))))
theorem wr2 : ∀ w ∈ wsL_law_r2, w ∈ wsL_law := fun _ h => List.mem_append_left _ (List.mem_append_left _ (List.mem_append_left _ (List.mem_append_left _ (List.mem_append_left _ (List.mem_append_left _ (List.mem_append_left _ (List.mem_append_left _ (List.mem_append_left _ (List.mem_append_left _ (List.mem_append_left _ (List.mem_append_left _ (List.mem_append_left _ (List.mem_append_right _ (List.mem_append_left _ (h)))))))))))))))
theorem wr3 : ∀ w ∈ wsL_law_r3, w ∈ wsL_law := fun _ h => List.mem_append_left _ (List.mem_append_left _ (List.mem_append_left _ (List.mem_append_left _ (List.mem_append_left _ (List.mem_append_left _ (List.mem_append_left _ (List.mem_append_left _ (List.mem_append_left _ (List.mem_append_left _ (List.mem_append_left _ (List.mem_append_left _ (List.mem_append_left _ (List.mem_append_right _ (List.mem_append_right _ (List.mem_append_left _ (h))))))))))))))))
theorem wr4 : ∀ w ∈ wsL_law_r4, w ∈ wsL_law := fun _ h => List.mem_append_left _ (List.mem_append_left _ (List.mem_append_left _ (List.mem_append_left _ (List.mem_append_left _ (List.mem_append_left _ (List.mem_append_left _ (List.mem_append_left _ (List.mem_append_left _ (List.mem_append_left _ (List.mem_append_left _ (List.mem_append_left _ (List.mem_append_left _ (List.mem_append_right _ (List.mem_append_right _ (List.mem_append_right _ (List.mem_append_left _ (h)))))))))))))))))
theorem wr5 : ∀ w ∈ wsL_law_r5, w ∈ wsL_law := fun _ h => List.mem_append_left _ (List.mem_append_left _ (List.mem_append_left _ (List.mem_append_left _ (List.mem_append_left _ (List.mem_append_left _ (List.mem_append_left _ (List.mem_append_left _ (List.mem_append_left _ (List.mem_append_left _ (List.mem_append_left _ (List.mem_append_left _ (List.mem_append_left _ (List.mem_append_right _ (List.mem_append_right _ (List.mem_append_right _ (List.mem_append_right _ (List.mem_append_left _ (h))))))))))))))))))
theorem wr6 : ∀ w ∈ wsL_law_r6, w ∈ wsL_law := fun _ h => List.mem_append_left _ (List.mem_append_left _ (List.mem_append_left _ (List.mem_append_left _ (List.mem_append_left _ (List.mem_append_left _ (List.mem_append_left _ (List.mem_append_left _ (List.mem_append_left _ (List.mem_append_left _ (List.mem_append_left _ (List.mem_append_left _ (List.mem_append_left _ (List.mem_append_right _ (List.mem_append_right _ (List.mem_append_right _ (List.mem_append_right _ (List.mem_append_right _ (List.mem_append_left _ (h)))))))))))))))))))
theorem wr7 : ∀ w ∈ wsL_law_r7, w ∈ wsL_law := fun _ h => List.mem_append_left _ (List.mem_append_left _ (List.mem_append_left _ (List.mem_append_left _ (List.mem_append_left _ (List.mem_append_left _ (List.mem_append_left _ (List.mem_append_left _ (List.mem_append_left _ (List.mem_append_left _ (List.mem_append_left _ (List.mem_append_left _ (List.mem_append_left _ (List.mem_append_right _ (List.mem_append_right _ (List.mem_append_right _ (List.mem_append_right _ (List.mem_append_right _ (List.mem_append_right _ (List.mem_append_left _ (h))))))))))))))))))))
theorem wr8 : ∀ w ∈ wsL_law_r8, w ∈ wsL_law := fun _ h => List.mem_append_left _ (List.mem_append_left _ (List.mem_append_left _ (List.mem_append_left _ (List.mem_append_left _ (List.mem_append_left _ (List.mem_append_left _ (List.mem_append_left _ (List.mem_append_left _ (List.mem_append_left _ (List.mem_append_left _ (List.mem_append_left _ (List.mem_append_left _ (List.mem_append_right _ (List.mem_append_right _ (List.mem_append_right _ (List.mem_append_right _ (List.mem_append_right _ (List.mem_append_right _ (List.mem_append_right _ (List.mem_append_left _ (h)))))))))))))))))))))
theorem wr9 : ∀ w ∈ wsL_law_r9, w ∈ wsL_law := fun _ h => List.mem_append_left _ (List.mem_append_left _ (List.mem_append_left _ (List.mem_append_left _ (List.mem_append_left _ (List.mem_append_left _ (List.mem_append_left _ (List.mem_append_left _ (List.mem_append_left _ (List.mem_append_left _ (List.mem_append_left _ (List.mem_append_left _ (List.mem_append_left _ (List.mem_append_right _ (List.mem_append_right _ (List.mem_append_right _ (List.mem_append_right _ (List.mem_append_right _ (List.mem_append_right _ (List.mem_append_right _ (List.mem_append_right _ (List.mem_append_left _ (h))))))))))))))))))))))
theorem wr10 : ∀ w ∈ wsL_law_r10, w ∈ wsL_law := fun _ h => List.mem_append_left _ (List.mem_append_left _ (List.mem_append_left _ (List.mem_append_left _ (List.mem_append_left _ (List.mem_append_left _ (List.mem_append_left _ (List.mem_append_left _ (List.mem_append_left _ (List.mem_append_left _ (List.mem_append_left _ (List.mem_append_left _ (List.mem_append_left _ (List.mem_append_right _ (List.mem_append_right _ (List.mem_append_right _ (List.mem_append_right _ (List.mem_append_right _ (List.mem_append_right _ (List.mem_append_right _ (List.mem_append_right _ (List.mem_append_right _ (List.mem_append_left _ (h)))))))))))))))))))))))
theorem wr11 : ∀ w ∈ wsL_law_r11, w ∈ wsL_law := fun _ h => List.mem_append_left _ (List.mem_append_left _ (List.mem_append_left _ (List.mem_append_left _ (List.mem_append_left _ (List.mem_append_left _ (List.mem_append_left _ (List.mem_append_left _ (List.mem_append_left _ (List.mem_append_left _ (List.mem_append_left _ (List.mem_append_left _ (List.mem_append_left _ (List.mem_append_right _ (List.mem_append_right _ (List.mem_append_right _ (List.mem_append_right _ (List.mem_append_right _ (List.mem_append_right _ (List.mem_append_right _ (List.mem_append_right _ (List.mem_append_right _ (List.mem_append_right _ (List.mem_append_left _ (h))))))))))))))))))))))))
theorem wr12 : ∀ w ∈ wsL_law_r12, w ∈ wsL_law := fun _ h => List.mem_append_left _ (List.mem_append_left _ (List.mem_append_left _ (List.mem_append_left _ (List.mem_append_left _ (List.mem_append_left _ (List.mem_append_left _ (List.mem_append_left _ (List.mem_append_left _ (List.mem_append_left _ (List.mem_append_left _ (List.mem_append_left _ (List.mem_append_left _ (List.mem_append_right _ (List.mem_append_right _ (List.mem_append_right _ (List.mem_append_right _ (List.mem_append_right _ (List.mem_append_right _ (List.mem_append_right _ (List.mem_append_right _ (List.mem_append_right _ (List.mem_append_right _ (List.mem_append_right _ (List.mem_append_left _ (h)))))))))))))))))))))))))
theorem wr13 : ∀ w ∈ wsL_law_r13, w ∈ wsL_law := fun _ h => List.mem_append_left _ (List.mem_append_left _ (List.mem_append_left _ (List.mem_append_left _ (List.mem_append_left _ (List.mem_append_left _ (List.mem_append_left _ (List.mem_append_left _ (List.mem_append_left _ (List.mem_append_left _ (List.mem_append_left _ (List.mem_append_left _ (List.mem_append_left _ (List.mem_append_right _ (List.mem_append_right _ (List.mem_append_right _ (List.mem_append_right _ (List.mem_append_right _ (List.mem_append_right _ (List.mem_append_right _ (List.mem_append_right _ (List.mem_append_right _ (List.mem_append_right _ (List.mem_append_right _ (List.mem_append_right _ (List.mem_append_left _ (h))))))))))))))))))))))))))
theorem wr14 : ∀ w ∈ wsL_law_r14, w ∈ wsL_law := fun _ h => List.mem_append_left _ (List.mem_append_left _ (List.mem_append_left _ (List.mem_append_left _ (List.mem_append_left _ (List.mem_append_left _ (List.mem_append_left _ (List.mem_append_left _ (List.mem_append_left _ (List.mem_append_left _ (List.mem_append_left _ (List.mem_append_left _ (List.mem_append_left _ (List.mem_append_right _ (List.mem_append_right _ (List.mem_append_right _ (List.mem_append_right _ (List.mem_append_right _ (List.mem_append_right _ (List.mem_append_right _ (List.mem_append_right _ (List.mem_append_right _ (List.mem_append_right _ (List.mem_append_right _ (List.mem_append_right _ (List.mem_append_right _ (List.mem_append_left _ (h)))))))))))))))))))))))))))
theorem wr15 : ∀ w ∈ wsL_law_r15, w ∈ wsL_law := fun _ h => List.mem_append_left _ (List.mem_append_left _ (List.mem_append_left _ (List.mem_append_left _ (List.mem_append_left _ (List.mem_append_left _ (List.mem_append_left _ (List.mem_append_left _ (List.mem_append_left _ (List.mem_append_left _ (List.mem_append_left _ (List.mem_append_left _ (List.mem_append_left _ (List.mem_append_right _ (List.mem_append_right _ (List.mem_append_right _ (List.mem_append_right _ (List.mem_append_right _ (List.mem_append_right _ (List.mem_append_right _ (List.mem_append_right _ (List.mem_append_right _ (List.mem_append_right _ (List.mem_append_right _ (List.mem_append_right _ (List.mem_append_right _ (List.mem_append_right _ (List.mem_append_left _ (h))))))))))))))))))))))))))))
theorem wr16 : ∀ w ∈ wsL_law_r16, w ∈ wsL_law := fun _ h => List.mem_append_left _ (List.mem_append_left _ (List.mem_append_left _ (List.mem_append_left _ (List.mem_append_left _ (List.mem_append_left _ (List.mem_append_left _ (List.mem_append_left _ (List.mem_append_left _ (List.mem_append_left _ (List.mem_append_left _ (List.mem_append_left _ (List.mem_append_left _ (List.mem_append_right _ (List.mem_append_right _ (List.mem_append_right _ (List.mem_append_right _ (List.mem_append_right _ (List.mem_append_right _ (List.mem_append_right _ (List.mem_append_right _ (List.mem_append_right _ (List.mem_append_right _ (List.mem_append_right _ (List.mem_append_right _ (List.mem_append_right _ (List.mem_append_right _ (List.mem_append_right _ (List.mem_append_left _ (h)))))))))))))))))))))))))))))
theorem wr17 : ∀ w ∈ wsL_law_r17, w ∈ wsL_law := fun _ h => List.mem_append_left _ (List.mem_append_left _ (List.mem_append_left _ (List.mem_append_left _ (List.mem_append_left _ (List.mem_append_left _ (List.mem_append_left _ (List.mem_append_left _ (List.mem_append_left _ (List.mem_append_left _ (List.mem_append_left _ (List.mem_append_left _ (List.mem_append_left _ (List.mem_append_right _ (List.mem_append_right _ (List.mem_append_right _ (List.mem_append_right _ (List.mem_append_right _ (List.mem_append_right _ (List.mem_append_right _ (List.mem_append_right _ (List.mem_append_right _ (List.mem_append_right _ (List.mem_append_right _ (List.mem_append_right _ (List.mem_append_right _ (List.mem_append_right _ (List.mem_append_right _ (List.mem_append_right _ (List.mem_append_left _ (h))))))))))))))))))))))))))))))
theorem wr18 : ∀ w ∈ wsL_law_r18, w ∈ wsL_law := fun _ h => List.mem_append_left _ (List.mem_append_left _ (List.mem_append_left _ (List.mem_append_left _ (List.mem_append_left _ (List.mem_append_left _ (List.mem_append_left _ (List.mem_append_left _ (List.mem_append_left _ (List.mem_append_left _ (List.mem_append_left _ (List.mem_append_left _ (List.mem_append_left _ (List.mem_append_right _ (List.mem_append_right _ (List.mem_append_right _ (List.mem_append_right _ (List.mem_append_right _ (List.mem_append_right _ (List.mem_append_right _ (List.mem_append_right _ (List.mem_append_right _ (List.mem_append_right _ (List.mem_append_right _ (List.mem_append_right _ (List.mem_append_right _ (List.mem_append_right _ (List.mem_append_right _ (List.mem_append_right _ (List.mem_append_right _ (List.mem_append_left _ (h)))))))))))))))))))))))))))))))
theorem wr19 : ∀ w ∈ wsL_law_r19, w ∈ wsL_law := fun _ h => List.mem_append_left _ (List.mem_append_left _ (List.mem_append_left _ (List.mem_append_left _ (List.mem_append_left _ (List.mem_append_left _ (List.mem_append_left _ (List.mem_append_left _ (List.mem_append_left _ (List.mem_append_left _ (List.mem_append_left _ (List.mem_append_left _ (List.mem_append_left _ (List.mem_append_right _ (List.mem_append_right _ (List.mem_append_right _ (List.mem_append_right _ (List.mem_append_right _ (List.mem_append_right _ (List.mem_append_right _ (List.mem_append_right _ (List.mem_append_right _ (List.mem_append_right _ (List.mem_append_right _ (List.mem_append_right _ (List.mem_append_right _ (List.mem_append_right _ (List.mem_append_right _ (List.mem_append_right _ (List.mem_append_right _ (List.mem_append_right _ (List.mem_append_left _ (h))))))))))))))))))))))))))))))))
theorem wr20 : ∀ w ∈ wsL_law_r20, w ∈ wsL_law := fun _ h => List.mem_append_left _ (List.mem_append_left _ (List.mem_append_left _ (List.mem_append_left _ (List.mem_append_left _ (List.mem_append_left _ (List.mem_append_left _ (List.mem_append_left _ (List.mem_append_left _ (List.mem_append_left _ (List.mem_append_left _ (List.mem_append_left _ (List.mem_append_left _ (List.mem_append_right _ (List.mem_append_right _ (List.mem_append_right _ (List.mem_append_right _ (List.mem_append_right _ (List.mem_append_right _ (List.mem_append_right _ (List.mem_append_right _ (List.mem_append_right _ (List.mem_append_right _ (List.mem_append_right _ (List.mem_append_right _ (List.mem_append_right _ (List.mem_append_right _ (List.mem_append_right _ (List.mem_append_right _ (List.mem_append_right _ (List.mem_append_right _ (List.mem_append_right _ (List.mem_append_left _ (h)))))))))))))))))))))))))))))))))
theorem wr21 : ∀ w ∈ wsL_law_r21, w ∈ wsL_law := fun _ h => List.mem_append_left _ (List.mem_append_left _ (List.mem_append_left _ (List.mem_append_left _ (List.mem_append_left _ (List.mem_append_left _ (List.mem_append_left _ (List.mem_append_left _ (List.mem_append_left _ (List.mem_append_left _ (List.mem_append_left _ (List.mem_append_left _ (List.mem_append_left _ (List.mem_append_right _ (List.mem_append_right _ (List.mem_append_right _ (List.mem_append_right _ (List.mem_append_right _ (List.mem_append_right _ (List.mem_append_right _ (List.mem_append_right _ (List.mem_append_right _ (List.mem_append_right _ (List.mem_append_right _ (List.mem_append_right _ (List.mem_append_right _ (List.mem_append_right _ (List.mem_append_right _ (List.mem_append_right _ (List.mem_append_right _ (List.mem_append_right _ (List.mem_append_right _ (List.mem_append_right _ (List.mem_append_left _ (h))))))))))))))))))))))))))))))))))
theorem wr22 : ∀ w ∈ wsL_law_r22, w ∈ wsL_law := fun _ h => List.mem_append_left _ (List.mem_append_left _ (List.mem_append_left _ (List.mem_append_left _ (List.mem_append_left _ (List.mem_append_left _ (List.mem_append_left _ (List.mem_append_left _ (List.mem_append_left _ (List.mem_append_left _ (List.mem_append_left _ (List.mem_append_left _ (List.mem_append_left _ (List.mem_append_right _ (List.mem_append_right _ (List.mem_append_right _ (List.mem_append_right _ (List.mem_append_right _ (List.mem_append_right _ (List.mem_append_right _ (List.mem_append_right _ (List.mem_append_right _ (List.mem_append_right _ (List.mem_append_right _ (List.mem_append_right _ (List.mem_append_right _ (List.mem_append_right _ (List.mem_append_right _ (List.mem_append_right _ (List.mem_append_right _ (List.mem_append_right _ (List.mem_append_right _ (List.mem_append_right _ (List.mem_append_right _ (List.mem_append_left _ (h)))))))))))))))))))))))))))))))))))
theorem wr23 : ∀ w ∈ wsL_law_r23, w ∈ wsL_law := fun _ h => List.mem_append_left _ (List.mem_append_left _ (List.mem_append_left _ (List.mem_append_left _ (List.mem_append_left _ (List.mem_append_left _ (List.mem_append_left _ (List.mem_append_left _ (List.mem_append_left _ (List.mem_append_left _ (List.mem_append_left _ (List.mem_append_left _ (List.mem_append_left _ (List.mem_append_right _ (List.mem_append_right _ (List.mem_append_right _ (List.mem_append_right _ (List.mem_append_right _ (List.mem_append_right _ (List.mem_append_right _ (List.mem_append_right _ (List.mem_append_right _ (List.mem_append_right _ (List.mem_append_right _ (List.mem_append_right _ (List.mem_append_right _ (List.mem_append_right _ (List.mem_append_right _ (List.mem_append_right _ (List.mem_append_right _ (List.mem_append_right _ (List.mem_append_right _ (List.mem_append_right _ (List.mem_append_right _ (List.mem_append_right _ (List.mem_append_left _ (h))))))))))))))))))))))))))))))))))))
theorem wr24 : ∀ w ∈ wsL_law_r24, w ∈ wsL_law := fun _ h => List.mem_append_left _ (List.mem_append_left _ (List.mem_append_left _ (List.mem_append_left _ (List.mem_append_left _ (List.mem_append_left _ (List.mem_append_left _ (List.mem_append_left _ (List.mem_append_left _ (List.mem_append_left _ (List.mem_append_left _ (List.mem_append_left _ (List.mem_append_left _ (List.mem_append_right _ (List.mem_append_right _ (List.mem_append_right _ (List.mem_append_right _ (List.mem_append_right _ (List.mem_append_right _ (List.mem_append_right _ (List.mem_append_right _ (List.mem_append_right _ (List.mem_append_right _ (List.mem_append_right _ (List.mem_append_right _ (List.mem_append_right _ (List.mem_append_right _ (List.mem_append_right _ (List.mem_append_right _ (List.mem_append_right _ (List.mem_append_right _ (List.mem_append_right _ (List.mem_append_right _ (List.mem_append_right _ (List.mem_append_right _ (List.mem_append_right _ (List.mem_append_left _ (h)))))))))))))))))))))))))))))))))))))
theorem wr25 : ∀ w ∈ wsL_law_r25, w ∈ wsL_law := fun _ h => List.mem_append_left _ (List.mem_append_left _ (List.mem_append_left _ (List.mem_append_left _ (List.mem_append_left _ (List.mem_append_left _ (List.mem_append_left _ (List.mem_append_left _ (List.mem_append_left _ (List.mem_append_left _ (List.mem_append_left _ (List.mem_append_left _ (List.mem_append_left _ (List.mem_append_right _ (List.mem_append_right _ (List.mem_append_right _ (List.mem_append_right _ (List.mem_append_right _ (List.mem_append_right _ (List.mem_append_right _ (List.mem_append_right _ (List.mem_append_right _ (List.mem_append_right _ (List.mem_append_right _ (List.mem_append_right _ (List.mem_append_right _ (List.mem_append_right _ (List.mem_append_right _ (List.mem_append_right _ (List.mem_append_right _ (List.mem_append_right _ (List.mem_append_right _ (List.mem_append_right _ (List.mem_append_right _ (List.mem_append_right _ (List.mem_append_right _ (List.mem_append_right _ (List.mem_append_left _ (h))))))))))))))))))))))))))))))))))))))
theorem wr26 : ∀ w ∈ wsL_law_r26, w ∈ wsL_law := fun _ h => List.mem_append_left _ (List.mem_append_left _ (List.mem_append_left _ (List.mem_append_left _ (List.mem_append_left _ (List.mem_append_left _ (List.mem_append_left _ (List.mem_append_left _ (List.mem_append_left _ (List.mem_append_left _ (List.mem_append_left _ (List.mem_append_left _ (List.mem_append_left _ (List.mem_append_right _ (List.mem_append_right _ (List.mem_append_right _ (List.mem_append_right _ (List.mem_append_right _ (List.mem_append_right _ (List.mem_append_right _ (List.mem_append_right _ (List.mem_append_right _ (List.mem_append_right _ (List.mem_append_right _ (List.mem_append_right _ (List.mem_append_right _ (List.mem_append_right _ (List.mem_append_right _ (List.mem_append_right _ (List.mem_append_right _ (List.mem_append_right _ (List.mem_append_right _ (List.mem_append_right _ (List.mem_append_right _ (List.mem_append_right _ (List.mem_append_right _ (List.mem_append_right _ (List.mem_append_right _ (List.mem_append_left _ (h)))))))))))))))))))))))))))))))))))))))
theorem wr27 : ∀ w ∈ wsL_law_r27, w ∈ wsL_law := fun _ h => List.mem_append_left _ (List.mem_append_left _ (List.mem_append_left _ (List.mem_append_left _ (List.mem_append_left _ (List.mem_append_left _ (List.mem_append_left _ (List.mem_append_left _ (List.mem_append_left _ (List.mem_append_left _ (List.mem_append_left _ (List.mem_append_left _ (List.mem_append_left _ (List.mem_append_right _ (List.mem_append_right _ (List.mem_append_right _ (List.mem_append_right _ (List.mem_append_right _ (List.mem_append_right _ (List.mem_append_right _ (List.mem_append_right _ (List.mem_append_right _ (List.mem_append_right _ (List.mem_append_right _ (List.mem_append_right _ (List.mem_append_right _ (List.mem_append_right _ (List.mem_append_right _ (List.mem_append_right _ (List.mem_append_right _ (List.mem_append_right _ (List.mem_append_right _ (List.mem_append_right _ (List.mem_append_right _ (List.mem_append_right _ (List.mem_append_right _ (List.mem_append_right _ (List.mem_append_right _ (List.mem_append_right _ (List.mem_append_left _ (h))))))))))))))))))))))))))))))))))))))))
theorem wr28 : ∀ w ∈ wsL_law_r28, w ∈ wsL_law := fun _ h => List.mem_append_left _ (List.mem_append_left _ (List.mem_append_left _ (List.mem_append_left _ (List.mem_append_left _ (List.mem_append_left _ (List.mem_append_left _ (List.mem_append_left _ (List.mem_append_left _ (List.mem_append_left _ (List.mem_append_left _ (List.mem_append_left _ (List.mem_append_left _ (List.mem_append_right _ (List.mem_append_right _ (List.mem_append_right _ (List.mem_append_right _ (List.mem_append_right _ (List.mem_append_right _ (List.mem_append_right _ (List.mem_append_right _ (List.mem_append_right _ (List.mem_append_right _ (List.mem_append_right _ (List.mem_append_right _ (List.mem_append_right _ (List.mem_append_right _ (List.mem_append_right _ (List.mem_append_right _ (List.mem_append_right _ (List.mem_append_right _ (List.mem_append_right _ (List.mem_append_right _ (List.mem_append_right _ (List.mem_append_right _ (List.mem_append_right _ (List.mem_append_right _ (List.mem_append_right _ (List.mem_append_right _ (List.mem_append_right _ (List.mem_append_left _ (h)))))))))))))))))))))))))))))))))))))))))
theorem wr29 : ∀ w ∈ wsL_law_r29, w ∈ wsL_law := fun _ h => List.mem_append_left _ (List.mem_append_left _ (List.mem_append_left _ (List.mem_append_left _ (List.mem_append_left _ (List.mem_append_left _ (List.mem_append_left _ (List.mem_append_left _ (List.mem_append_left _ (List.mem_append_left _ (List.mem_append_left _ (List.mem_append_left _ (List.mem_append_left _ (List.mem_append_right _ (List.mem_append_right _ (List.mem_append_right _ (List.mem_append_right _ (List.mem_append_right _ (List.mem_append_right _ (List.mem_append_right _ (List.mem_append_right _ (List.mem_append_right _ (List.mem_append_right _ (List.mem_append_right _ (List.mem_append_right _ (List.mem_append_right _ (List.mem_append_right _ (List.mem_append_right _ (List.mem_append_right _ (List.mem_append_right _ (List.mem_append_right _ (List.mem_append_right _ (List.mem_append_right _ (List.mem_append_right _ (List.mem_append_right _ (List.mem_append_right _ (List.mem_append_right _ (List.mem_append_right _ (List.mem_append_right _ (List.mem_append_right _ (List.mem_append_right _ (List.mem_append_left _ (h))))))))))))))))))))))))))))))))))))))))))
theorem wr30 : ∀ w ∈ wsL_law_r30, w ∈ wsL_law := fun _ h => List.mem_append_left _ (List.mem_append_left _ (List.mem_append_left _ (List.mem_append_left _ (List.mem_append_left _ (List.mem_append_left _ (List.mem_append_left _ (List.mem_append_left _ (List.mem_append_left _ (List.mem_append_left _ (List.mem_append_left _ (List.mem_append_left _ (List.mem_append_left _ (List.mem_append_right _ (List.mem_append_right _ (List.mem_append_right _ (List.mem_append_right _ (List.mem_append_right _ (List.mem_append_right _ (List.mem_append_right _ (List.mem_append_right _ (List.mem_append_right _ (List.mem_append_right _ (List.mem_append_right _ (List.mem_append_right _ (List.mem_append_right _ (List.mem_append_right _ (List.mem_append_right _ (List.mem_append_right _ (List.mem_append_right _ (List.mem_append_right _ (List.mem_append_right _ (List.mem_append_right _ (List.mem_append_right _ (List.mem_append_right _ (List.mem_append_right _ (List.mem_append_right _ (List.mem_append_right _ (List.mem_append_right _ (List.mem_append_right _ (List.mem_append_right _ (List.mem_append_right _ (List.mem_append_left _ (h)))))))))))))))))))))))))))))))))))))))))))
theorem wr31 : ∀ w ∈ wsL_law_r31, w ∈ wsL_law := fun _ h => List.mem_append_left _ (List.mem_append_left _ (List.mem_append_left _ (List.mem_append_left _ (List.mem_append_left _ (List.mem_append_left _ (List.mem_append_left _ (List.mem_append_left _ (List.mem_append_left _ (List.mem_append_left _ (List.mem_append_left _ (List.mem_append_left _ (List.mem_append_left _ (List.mem_append_right _ (List.mem_append_right _ (List.mem_append_right _ (List.mem_append_right _ (List.mem_append_right _ (List.mem_append_right _ (List.mem_append_right _ (List.mem_append_right _ (List.mem_append_right _ (List.mem_append_right _ (List.mem_append_right _ (List.mem_append_right _ (List.mem_append_right _ (List.mem_append_right _ (List.mem_append_right _ (List.mem_append_right _ (List.mem_append_right _ (List.mem_append_right _ (List.mem_append_right _ (List.mem_append_right _ (List.mem_append_right _ (List.mem_append_right _ (List.mem_append_right _ (List.mem_append_right _ (List.mem_append_right _ (List.mem_append_right _ (List.mem_append_right _ (List.mem_append_right _ (List.mem_append_right _ (List.mem_append_right _ (List.mem_append_left _ (h))))))))))))))))))))))))))))))))))))))))))))
theorem wr32 : ∀ w ∈ wsL_law_r32, w ∈ wsL_law := fun _ h => List.mem_append_left _ (List.mem_append_left _ (List.mem_append_left _ (List.mem_append_left _ (List.mem_append_left _ (List.mem_append_left _ (List.mem_append_left _ (List.mem_append_left _ (List.mem_append_left _ (List.mem_append_left _ (List.mem_append_left _ (List.mem_append_left _ (List.mem_append_left _ (List.mem_append_right _ (List.mem_append_right _ (List.mem_append_right _ (List.mem_append_right _ (List.mem_append_right _ (List.mem_append_right _ (List.mem_append_right _ (List.mem_append_right _ (List.mem_append_right _ (List.mem_append_right _ (List.mem_append_right _ (List.mem_append_right _ (List.mem_append_right _ (List.mem_append_right _ (List.mem_append_right _ (List.mem_append_right _ (List.mem_append_right _ (List.mem_append_right _ (List.mem_append_right _ (List.mem_append_right _ (List.mem_append_right _ (List.mem_append_right _ (List.mem_append_right _ (List.mem_append_right _ (List.mem_append_right _ (List.mem_append_right _ (List.mem_append_right _ (List.mem_append_right _ (List.mem_append_right _ (List.mem_append_right _ (List.mem_append_right _ (List.mem_append_left _ (h)))))))))))))))))))))))))))))))))))))))))))))
theorem wr33 : ∀ w ∈ wsL_law_r33, w ∈ wsL_law := fun _ h => List.mem_append_left _ (List.mem_append_left _ (List.mem_append_left _ (List.mem_append_left _ (List.mem_append_left _ (List.mem_append_left _ (List.mem_append_left _ (List.mem_append_left _ (List.mem_append_left _ (List.mem_append_left _ (List.mem_append_left _ (List.mem_append_left _ (List.mem_append_left _ (List.mem_append_right _ (List.mem_append_right _ (List.mem_append_right _ (List.mem_append_right _ (List.mem_append_right _ (List.mem_append_right _ (List.mem_append_right _ (List.mem_append_right _ (List.mem_append_right _ (List.mem_append_right _ (List.mem_append_right _ (List.mem_append_right _ (List.mem_append_right _ (List.mem_append_right _ (List.mem_append_right _ (List.mem_append_right _ (List.mem_append_right _ (List.mem_append_right _ (List.mem_append_right _ (List.mem_append_right _ (List.mem_append_right _ (List.mem_append_right _ (List.mem_append_right _ (List.mem_append_right _ (List.mem_append_right _ (List.mem_append_right _ (List.mem_append_right _ (List.mem_append_right _ (List.mem_append_right _ (List.mem_append_right _ (List.mem_append_right _ (List.mem_append_right _ (h)))))))))))))))))))))))))))))))))))))))))))))
theorem am_lk {α : Type} : ∀ (l : List (Nat × α)) (k : Nat) (b : α), l.lookup k = some b → (k, b) ∈ l
  | [], _, _, h => by simp at h
  | (a, x) :: l, k, b, h => by
    rw [List.lookup_cons] at h
    split at h
    · rename_i q
      have e : k = a := by simpa using q
      cases h
      subst e
      exact List.mem_cons_self
    · exact List.mem_cons_of_mem _ (am_lk l k b h)
def am_nests : List (String × Nat × MethodName × String) := [("CardTabulator", 11, yX8_init, "CardTabulator"), ("CardTabulator$State", 11, yX3_init, "CardTabulator"), ("CardTabulator$State", 27, yX5_init, "CardTabulator"), ("CardTabulator", 18, yX2_init, "CardTabulator"), ("CardTabulator", 29, yX9_init, "CardTabulator"), ("CardTabulator", 36, yX7_init, "CardTabulator"), ("CardTabulator", 43, yX4_init, "CardTabulator"), ("CardTabulator$Printer", 11, yX10_init, "CardTabulator"), ("CardTabulator$SecondWay", 17, yX10_init, "CardTabulator"), ("CardTabulator", 64, yX10_init, "CardTabulator"), ("CardTabulator$Report", 43, yX11_isWithin, "CardTabulator"), ("CardTabulator$Layout", 18, yX11_isField, "CardTabulator"), ("CardTabulator$Card", 26, yX11_isColumn, "CardTabulator"), ("CardTabulator$History", 38, yX8_init, "CardTabulator"), ("CardTabulator$State", 40, yX11_isSetting, "CardTabulator"), ("CardTabulator$Sorter", 65, yX11_isWithin, "CardTabulator"), ("CardTabulator$Text", 67, yX11_isWithin, "CardTabulator")]
def am_FP (c : Nat) (e : Nat × Nat × Nat) : Prop := ∃ r : vw_C, vwCl[e.2.1]? = some r ∧ e.2.2 < r.2.2 ∧ Cond.fieldLink (am_cn c) e.1 (r.2.1 e.2.2).1 (r.2.1 e.2.2).2.1 (r.2.1 e.2.2).2.2.1 ∈ wsL_law
def am_NP (c : Nat) (e : Nat × Nat) : Prop := ∃ r : vw_C, vwCl[e.2]? = some r ∧ Cond.classLink (am_cn c) e.1 r.1 ∈ wsL_law ∧ Cond.instantiable r.1 r.2.2 ∈ wsL_law ∧ Cond.initialized r.1 ∈ wsL_law
def am_AP (c : Nat) (e : Nat × Nat) : Prop := (0 < e.2 ∧ e.2 < 4) ∧ Cond.classLink (am_cn c) e.1 (am_cn (am_comp e.2)) ∈ wsL_law
def am_SP (c : Nat) (e : Nat × Nat) : Prop := (e.2 = 0 → Cond.methodLink (am_cn c) e.1 objectInit ∈ wsL_law) ∧ (e.2 = 1 → Cond.methodLink (am_cn c) e.1 arraycopyName ∈ wsL_law) ∧ (e.2 = 2 → Cond.methodLink (am_cn c) e.1 Lib.Math.min.name ∈ wsL_law) ∧ (e.2 = 3 → Cond.methodLink (am_cn c) e.1 Lib.Math.abs.name ∈ wsL_law)
def am_MO (mj : am_I) : Prop := Cond.code mj.2.2.1 mj.2.1 mj.2.2.2.1 mj.2.2.2.2.1 ∈ wsL_law ∧ plainFor mj.2.2.1 = true ∧ (mj.2.2.1.cls ≠ "java/lang/invoke/MethodHandle" ∧ mj.2.2.1.cls ≠ "java/lang/invoke/VarHandle") ∧ Cond.initialized mj.2.2.1.cls ∈ wsL_law ∧ am_cn mj.1 = mj.2.2.1.cls
def am_CP (c : Nat) (e : Nat × Nat × Nat × am_I) : Prop := am_MO e.2.2.2 ∧ (e.2.1 ≤ 2 → Cond.methodLink (am_cn c) e.1 e.2.2.2.2.2.1 ∈ wsL_law) ∧ (4 ≤ e.2.1 → (am_cn c, e.1, e.2.2.2.2.2.1, "CardTabulator") ∈ am_nests) ∧ (e.2.1 ≠ 1 ∧ e.2.1 ≠ 4 → Cond.instanceMethod e.2.2.2.2.2.1 ∈ wsL_law) ∧ (e.2.1 = 0 → Cond.selects e.2.2.2.2.2.1.cls e.2.2.2.2.2.1 e.2.2.2.2.2.1 ∈ wsL_law) ∧ (e.2.1 = 1 ∨ e.2.1 = 4 → Cond.static e.2.2.2.2.2.1 ∈ wsL_law) ∧ (e.2.1 = 2 ∨ e.2.1 = 5 → e.2.2.2.2.2.1.name = "<init>" ∧ e.2.2.2.2.2.2.2.1 = none) ∧ (parseMethodDescriptor e.2.2.2.2.2.1.desc).map (fun d => d.parameters.length) = some e.2.2.1
set_option maxRecDepth 100000 in
theorem am_fldP0 : ∀ e ∈ (am_fldL 0), am_FP 0 e := List.forall_mem_cons.mpr ⟨⟨_, rfl, by decide, wr4 _ (List.mem_of_getElem? (i := 5) rfl)⟩, List.forall_mem_cons.mpr ⟨⟨_, rfl, by decide, wr4 _ (List.mem_of_getElem? (i := 11) rfl)⟩, List.forall_mem_cons.mpr ⟨⟨_, rfl, by decide, wr4 _ (List.mem_of_getElem? (i := 12) rfl)⟩, fun _ h => absurd h List.not_mem_nil⟩⟩⟩
set_option maxRecDepth 100000 in
theorem am_fldP1 : ∀ e ∈ (am_fldL 1), am_FP 1 e := List.forall_mem_cons.mpr ⟨⟨_, rfl, by decide, wr3 _ (List.mem_of_getElem? (i := 23) rfl)⟩, List.forall_mem_cons.mpr ⟨⟨_, rfl, by decide, wr4 _ (List.mem_of_getElem? (i := 0) rfl)⟩, List.forall_mem_cons.mpr ⟨⟨_, rfl, by decide, wr7 _ (List.mem_of_getElem? (i := 14) rfl)⟩, fun _ h => absurd h List.not_mem_nil⟩⟩⟩
set_option maxRecDepth 100000 in
theorem am_fldP2 : ∀ e ∈ (am_fldL 2), am_FP 2 e := List.forall_mem_cons.mpr ⟨⟨_, rfl, by decide, wr4 _ (List.mem_of_getElem? (i := 22) rfl)⟩, List.forall_mem_cons.mpr ⟨⟨_, rfl, by decide, wr11 _ (List.mem_of_getElem? (i := 15) rfl)⟩, List.forall_mem_cons.mpr ⟨⟨_, rfl, by decide, wr12 _ (List.mem_of_getElem? (i := 6) rfl)⟩, fun _ h => absurd h List.not_mem_nil⟩⟩⟩
set_option maxRecDepth 100000 in
theorem am_fldP3 : ∀ e ∈ (am_fldL 3), am_FP 3 e := List.forall_mem_cons.mpr ⟨⟨_, rfl, by decide, wr3 _ (List.mem_of_getElem? (i := 16) rfl)⟩, List.forall_mem_cons.mpr ⟨⟨_, rfl, by decide, wr3 _ (List.mem_of_getElem? (i := 17) rfl)⟩, fun _ h => absurd h List.not_mem_nil⟩⟩
set_option maxRecDepth 100000 in
theorem am_fldP4 : ∀ e ∈ (am_fldL 4), am_FP 4 e := List.forall_mem_cons.mpr ⟨⟨_, rfl, by decide, wr5 _ (List.mem_of_getElem? (i := 20) rfl)⟩, List.forall_mem_cons.mpr ⟨⟨_, rfl, by decide, wr5 _ (List.mem_of_getElem? (i := 21) rfl)⟩, List.forall_mem_cons.mpr ⟨⟨_, rfl, by decide, wr5 _ (List.mem_of_getElem? (i := 22) rfl)⟩, List.forall_mem_cons.mpr ⟨⟨_, rfl, by decide, wr5 _ (List.mem_of_getElem? (i := 23) rfl)⟩, List.forall_mem_cons.mpr ⟨⟨_, rfl, by decide, wr21 _ (List.mem_of_getElem? (i := 4) rfl)⟩, List.forall_mem_cons.mpr ⟨⟨_, rfl, by decide, wr21 _ (List.mem_of_getElem? (i := 10) rfl)⟩, List.forall_mem_cons.mpr ⟨⟨_, rfl, by decide, wr21 _ (List.mem_of_getElem? (i := 11) rfl)⟩, List.forall_mem_cons.mpr ⟨⟨_, rfl, by decide, wr21 _ (List.mem_of_getElem? (i := 16) rfl)⟩, fun _ h => absurd h List.not_mem_nil⟩⟩⟩⟩⟩⟩⟩⟩
set_option maxRecDepth 100000 in
theorem am_fldP5 : ∀ e ∈ (am_fldL 5), am_FP 5 e := List.forall_mem_cons.mpr ⟨⟨_, rfl, by decide, wr4 _ (List.mem_of_getElem? (i := 16) rfl)⟩, List.forall_mem_cons.mpr ⟨⟨_, rfl, by decide, wr4 _ (List.mem_of_getElem? (i := 17) rfl)⟩, List.forall_mem_cons.mpr ⟨⟨_, rfl, by decide, wr7 _ (List.mem_of_getElem? (i := 19) rfl)⟩, List.forall_mem_cons.mpr ⟨⟨_, rfl, by decide, wr8 _ (List.mem_of_getElem? (i := 14) rfl)⟩, List.forall_mem_cons.mpr ⟨⟨_, rfl, by decide, wr13 _ (List.mem_of_getElem? (i := 18) rfl)⟩, List.forall_mem_cons.mpr ⟨⟨_, rfl, by decide, wr22 _ (List.mem_of_getElem? (i := 7) rfl)⟩, List.forall_mem_cons.mpr ⟨⟨_, rfl, by decide, wr22 _ (List.mem_of_getElem? (i := 9) rfl)⟩, List.forall_mem_cons.mpr ⟨⟨_, rfl, by decide, wr22 _ (List.mem_of_getElem? (i := 10) rfl)⟩, List.forall_mem_cons.mpr ⟨⟨_, rfl, by decide, wr22 _ (List.mem_of_getElem? (i := 11) rfl)⟩, List.forall_mem_cons.mpr ⟨⟨_, rfl, by decide, wr22 _ (List.mem_of_getElem? (i := 12) rfl)⟩, List.forall_mem_cons.mpr ⟨⟨_, rfl, by decide, wr22 _ (List.mem_of_getElem? (i := 13) rfl)⟩, List.forall_mem_cons.mpr ⟨⟨_, rfl, by decide, wr22 _ (List.mem_of_getElem? (i := 14) rfl)⟩, List.forall_mem_cons.mpr ⟨⟨_, rfl, by decide, wr22 _ (List.mem_of_getElem? (i := 15) rfl)⟩, fun _ h => absurd h List.not_mem_nil⟩⟩⟩⟩⟩⟩⟩⟩⟩⟩⟩⟩⟩
set_option maxRecDepth 100000 in
theorem am_fldP6 : ∀ e ∈ (am_fldL 6), am_FP 6 e := List.forall_mem_cons.mpr ⟨⟨_, rfl, by decide, wr6 _ (List.mem_of_getElem? (i := 8) rfl)⟩, List.forall_mem_cons.mpr ⟨⟨_, rfl, by decide, wr6 _ (List.mem_of_getElem? (i := 9) rfl)⟩, List.forall_mem_cons.mpr ⟨⟨_, rfl, by decide, wr6 _ (List.mem_of_getElem? (i := 10) rfl)⟩, List.forall_mem_cons.mpr ⟨⟨_, rfl, by decide, wr28 _ (List.mem_of_getElem? (i := 8) rfl)⟩, List.forall_mem_cons.mpr ⟨⟨_, rfl, by decide, wr28 _ (List.mem_of_getElem? (i := 9) rfl)⟩, List.forall_mem_cons.mpr ⟨⟨_, rfl, by decide, wr28 _ (List.mem_of_getElem? (i := 10) rfl)⟩, List.forall_mem_cons.mpr ⟨⟨_, rfl, by decide, wr29 _ (List.mem_of_getElem? (i := 12) rfl)⟩, List.forall_mem_cons.mpr ⟨⟨_, rfl, by decide, wr29 _ (List.mem_of_getElem? (i := 16) rfl)⟩, List.forall_mem_cons.mpr ⟨⟨_, rfl, by decide, wr29 _ (List.mem_of_getElem? (i := 17) rfl)⟩, List.forall_mem_cons.mpr ⟨⟨_, rfl, by decide, wr29 _ (List.mem_of_getElem? (i := 18) rfl)⟩, List.forall_mem_cons.mpr ⟨⟨_, rfl, by decide, wr29 _ (List.mem_of_getElem? (i := 19) rfl)⟩, fun _ h => absurd h List.not_mem_nil⟩⟩⟩⟩⟩⟩⟩⟩⟩⟩⟩
set_option maxRecDepth 100000 in
theorem am_fldP7 : ∀ e ∈ (am_fldL 7), am_FP 7 e := List.forall_mem_cons.mpr ⟨⟨_, rfl, by decide, wr5 _ (List.mem_of_getElem? (i := 11) rfl)⟩, List.forall_mem_cons.mpr ⟨⟨_, rfl, by decide, wr5 _ (List.mem_of_getElem? (i := 12) rfl)⟩, List.forall_mem_cons.mpr ⟨⟨_, rfl, by decide, wr5 _ (List.mem_of_getElem? (i := 13) rfl)⟩, List.forall_mem_cons.mpr ⟨⟨_, rfl, by decide, wr5 _ (List.mem_of_getElem? (i := 15) rfl)⟩, List.forall_mem_cons.mpr ⟨⟨_, rfl, by decide, wr9 _ (List.mem_of_getElem? (i := 13) rfl)⟩, fun _ h => absurd h List.not_mem_nil⟩⟩⟩⟩⟩
set_option maxRecDepth 100000 in
theorem am_fldP8 : ∀ e ∈ (am_fldL 8), am_FP 8 e := List.forall_mem_cons.mpr ⟨⟨_, rfl, by decide, wr3 _ (List.mem_of_getElem? (i := 0) rfl)⟩, List.forall_mem_cons.mpr ⟨⟨_, rfl, by decide, wr3 _ (List.mem_of_getElem? (i := 4) rfl)⟩, List.forall_mem_cons.mpr ⟨⟨_, rfl, by decide, wr3 _ (List.mem_of_getElem? (i := 8) rfl)⟩, List.forall_mem_cons.mpr ⟨⟨_, rfl, by decide, wr3 _ (List.mem_of_getElem? (i := 10) rfl)⟩, List.forall_mem_cons.mpr ⟨⟨_, rfl, by decide, wr3 _ (List.mem_of_getElem? (i := 12) rfl)⟩, fun _ h => absurd h List.not_mem_nil⟩⟩⟩⟩⟩
set_option maxRecDepth 100000 in
theorem am_fldP9 : ∀ e ∈ (am_fldL 9), am_FP 9 e := List.forall_mem_cons.mpr ⟨⟨_, rfl, by decide, wr5 _ (List.mem_of_getElem? (i := 2) rfl)⟩, List.forall_mem_cons.mpr ⟨⟨_, rfl, by decide, wr5 _ (List.mem_of_getElem? (i := 3) rfl)⟩, List.forall_mem_cons.mpr ⟨⟨_, rfl, by decide, wr5 _ (List.mem_of_getElem? (i := 4) rfl)⟩, List.forall_mem_cons.mpr ⟨⟨_, rfl, by decide, wr5 _ (List.mem_of_getElem? (i := 6) rfl)⟩, List.forall_mem_cons.mpr ⟨⟨_, rfl, by decide, wr5 _ (List.mem_of_getElem? (i := 7) rfl)⟩, List.forall_mem_cons.mpr ⟨⟨_, rfl, by decide, wr11 _ (List.mem_of_getElem? (i := 10) rfl)⟩, List.forall_mem_cons.mpr ⟨⟨_, rfl, by decide, wr25 _ (List.mem_of_getElem? (i := 13) rfl)⟩, fun _ h => absurd h List.not_mem_nil⟩⟩⟩⟩⟩⟩⟩
set_option maxRecDepth 100000 in
theorem am_fldP10 : ∀ e ∈ (am_fldL 10), am_FP 10 e := List.forall_mem_cons.mpr ⟨⟨_, rfl, by decide, wr18 _ (List.mem_of_getElem? (i := 16) rfl)⟩, List.forall_mem_cons.mpr ⟨⟨_, rfl, by decide, wr18 _ (List.mem_of_getElem? (i := 17) rfl)⟩, List.forall_mem_cons.mpr ⟨⟨_, rfl, by decide, wr18 _ (List.mem_of_getElem? (i := 18) rfl)⟩, List.forall_mem_cons.mpr ⟨⟨_, rfl, by decide, wr18 _ (List.mem_of_getElem? (i := 19) rfl)⟩, List.forall_mem_cons.mpr ⟨⟨_, rfl, by decide, wr18 _ (List.mem_of_getElem? (i := 20) rfl)⟩, List.forall_mem_cons.mpr ⟨⟨_, rfl, by decide, wr18 _ (List.mem_of_getElem? (i := 21) rfl)⟩, List.forall_mem_cons.mpr ⟨⟨_, rfl, by decide, wr18 _ (List.mem_of_getElem? (i := 22) rfl)⟩, List.forall_mem_cons.mpr ⟨⟨_, rfl, by decide, wr18 _ (List.mem_of_getElem? (i := 23) rfl)⟩, fun _ h => absurd h List.not_mem_nil⟩⟩⟩⟩⟩⟩⟩⟩
set_option maxRecDepth 100000 in
theorem am_fldP11 : ∀ e ∈ (am_fldL 11), am_FP 11 e := List.forall_mem_cons.mpr ⟨⟨_, rfl, by decide, wr1 _ (List.mem_of_getElem? (i := 12) rfl)⟩, List.forall_mem_cons.mpr ⟨⟨_, rfl, by decide, wr1 _ (List.mem_of_getElem? (i := 16) rfl)⟩, List.forall_mem_cons.mpr ⟨⟨_, rfl, by decide, wr1 _ (List.mem_of_getElem? (i := 17) rfl)⟩, List.forall_mem_cons.mpr ⟨⟨_, rfl, by decide, wr1 _ (List.mem_of_getElem? (i := 21) rfl)⟩, List.forall_mem_cons.mpr ⟨⟨_, rfl, by decide, wr2 _ (List.mem_of_getElem? (i := 1) rfl)⟩, List.forall_mem_cons.mpr ⟨⟨_, rfl, by decide, wr2 _ (List.mem_of_getElem? (i := 5) rfl)⟩, List.forall_mem_cons.mpr ⟨⟨_, rfl, by decide, wr2 _ (List.mem_of_getElem? (i := 9) rfl)⟩, List.forall_mem_cons.mpr ⟨⟨_, rfl, by decide, wr2 _ (List.mem_of_getElem? (i := 13) rfl)⟩, List.forall_mem_cons.mpr ⟨⟨_, rfl, by decide, wr2 _ (List.mem_of_getElem? (i := 17) rfl)⟩, List.forall_mem_cons.mpr ⟨⟨_, rfl, by decide, wr7 _ (List.mem_of_getElem? (i := 5) rfl)⟩, List.forall_mem_cons.mpr ⟨⟨_, rfl, by decide, wr7 _ (List.mem_of_getElem? (i := 6) rfl)⟩, List.forall_mem_cons.mpr ⟨⟨_, rfl, by decide, wr7 _ (List.mem_of_getElem? (i := 7) rfl)⟩, List.forall_mem_cons.mpr ⟨⟨_, rfl, by decide, wr9 _ (List.mem_of_getElem? (i := 4) rfl)⟩, List.forall_mem_cons.mpr ⟨⟨_, rfl, by decide, wr14 _ (List.mem_of_getElem? (i := 6) rfl)⟩, List.forall_mem_cons.mpr ⟨⟨_, rfl, by decide, wr14 _ (List.mem_of_getElem? (i := 19) rfl)⟩, List.forall_mem_cons.mpr ⟨⟨_, rfl, by decide, wr16 _ (List.mem_of_getElem? (i := 18) rfl)⟩, List.forall_mem_cons.mpr ⟨⟨_, rfl, by decide, wr16 _ (List.mem_of_getElem? (i := 19) rfl)⟩, List.forall_mem_cons.mpr ⟨⟨_, rfl, by decide, wr19 _ (List.mem_of_getElem? (i := 13) rfl)⟩, List.forall_mem_cons.mpr ⟨⟨_, rfl, by decide, wr31 _ (List.mem_of_getElem? (i := 0) rfl)⟩, List.forall_mem_cons.mpr ⟨⟨_, rfl, by decide, wr31 _ (List.mem_of_getElem? (i := 1) rfl)⟩, List.forall_mem_cons.mpr ⟨⟨_, rfl, by decide, wr31 _ (List.mem_of_getElem? (i := 2) rfl)⟩, List.forall_mem_cons.mpr ⟨⟨_, rfl, by decide, wr31 _ (List.mem_of_getElem? (i := 3) rfl)⟩, fun _ h => absurd h List.not_mem_nil⟩⟩⟩⟩⟩⟩⟩⟩⟩⟩⟩⟩⟩⟩⟩⟩⟩⟩⟩⟩⟩⟩
theorem am_fldP (c : Nat) : ∀ e ∈ am_fldL c, am_FP c e := by
  match c with
  | 0 => exact am_fldP0
  | 1 => exact am_fldP1
  | 2 => exact am_fldP2
  | 3 => exact am_fldP3
  | 4 => exact am_fldP4
  | 5 => exact am_fldP5
  | 6 => exact am_fldP6
  | 7 => exact am_fldP7
  | 8 => exact am_fldP8
  | 9 => exact am_fldP9
  | 10 => exact am_fldP10
  | 11 => exact am_fldP11
  | 12 => exact fun _ h => absurd h List.not_mem_nil
  | 13 => exact fun _ h => absurd h List.not_mem_nil
  | 14 => exact fun _ h => absurd h List.not_mem_nil
  | _ + 15 => exact fun _ h => absurd h List.not_mem_nil
def am_KP (c : Nat) (e : Nat × Int32) : Prop := Cond.constant (am_cn c) e.1 e.2 ∈ wsL_law
set_option maxRecDepth 100000 in
theorem am_conP0 : ∀ e ∈ (am_conL 0), am_KP 0 e := List.forall_mem_cons.mpr ⟨wr4 _ (List.mem_of_getElem? (i := 10) rfl), fun _ h => absurd h List.not_mem_nil⟩
set_option maxRecDepth 100000 in
theorem am_conP3 : ∀ e ∈ (am_conL 3), am_KP 3 e := List.forall_mem_cons.mpr ⟨wr10 _ (List.mem_of_getElem? (i := 4) rfl), fun _ h => absurd h List.not_mem_nil⟩
set_option maxRecDepth 100000 in
theorem am_conP4 : ∀ e ∈ (am_conL 4), am_KP 4 e := List.forall_mem_cons.mpr ⟨wr21 _ (List.mem_of_getElem? (i := 17) rfl), fun _ h => absurd h List.not_mem_nil⟩
set_option maxRecDepth 100000 in
theorem am_conP5 : ∀ e ∈ (am_conL 5), am_KP 5 e := List.forall_mem_cons.mpr ⟨wr8 _ (List.mem_of_getElem? (i := 19) rfl), List.forall_mem_cons.mpr ⟨wr22 _ (List.mem_of_getElem? (i := 8) rfl), fun _ h => absurd h List.not_mem_nil⟩⟩
set_option maxRecDepth 100000 in
theorem am_conP8 : ∀ e ∈ (am_conL 8), am_KP 8 e := List.forall_mem_cons.mpr ⟨wr3 _ (List.mem_of_getElem? (i := 11) rfl), fun _ h => absurd h List.not_mem_nil⟩
set_option maxRecDepth 100000 in
theorem am_conP9 : ∀ e ∈ (am_conL 9), am_KP 9 e := List.forall_mem_cons.mpr ⟨wr5 _ (List.mem_of_getElem? (i := 5) rfl), fun _ h => absurd h List.not_mem_nil⟩
set_option maxRecDepth 100000 in
theorem am_conP10 : ∀ e ∈ (am_conL 10), am_KP 10 e := List.forall_mem_cons.mpr ⟨wr20 _ (List.mem_of_getElem? (i := 0) rfl), fun _ h => absurd h List.not_mem_nil⟩
set_option maxRecDepth 100000 in
theorem am_conP11 : ∀ e ∈ (am_conL 11), am_KP 11 e := List.forall_mem_cons.mpr ⟨wr7 _ (List.mem_of_getElem? (i := 8) rfl), List.forall_mem_cons.mpr ⟨wr7 _ (List.mem_of_getElem? (i := 9) rfl), List.forall_mem_cons.mpr ⟨wr14 _ (List.mem_of_getElem? (i := 18) rfl), List.forall_mem_cons.mpr ⟨wr23 _ (List.mem_of_getElem? (i := 12) rfl), List.forall_mem_cons.mpr ⟨wr25 _ (List.mem_of_getElem? (i := 0) rfl), fun _ h => absurd h List.not_mem_nil⟩⟩⟩⟩⟩
set_option maxRecDepth 100000 in
theorem am_conP14 : ∀ e ∈ (am_conL 14), am_KP 14 e := List.forall_mem_cons.mpr ⟨wr6 _ (List.mem_of_getElem? (i := 16) rfl), List.forall_mem_cons.mpr ⟨wr6 _ (List.mem_of_getElem? (i := 20) rfl), List.forall_mem_cons.mpr ⟨wr7 _ (List.mem_of_getElem? (i := 0) rfl), List.forall_mem_cons.mpr ⟨wr27 _ (List.mem_of_getElem? (i := 23) rfl), fun _ h => absurd h List.not_mem_nil⟩⟩⟩⟩
theorem am_conP (c : Nat) : ∀ e ∈ am_conL c, am_KP c e := by
  match c with
  | 0 => exact am_conP0
  | 1 => exact fun _ h => absurd h List.not_mem_nil
  | 2 => exact fun _ h => absurd h List.not_mem_nil
  | 3 => exact am_conP3
  | 4 => exact am_conP4
  | 5 => exact am_conP5
  | 6 => exact fun _ h => absurd h List.not_mem_nil
  | 7 => exact fun _ h => absurd h List.not_mem_nil
  | 8 => exact am_conP8
  | 9 => exact am_conP9
  | 10 => exact am_conP10
  | 11 => exact am_conP11
  | 12 => exact fun _ h => absurd h List.not_mem_nil
  | 13 => exact fun _ h => absurd h List.not_mem_nil
  | 14 => exact am_conP14
  | _ + 15 => exact fun _ h => absurd h List.not_mem_nil
def am_LP (c : Nat) (e : Nat × Int64) : Prop := Cond.constantLong (am_cn c) e.1 e.2 ∈ wsL_law
set_option maxRecDepth 100000 in
theorem am_lngP3 : ∀ e ∈ (am_lngL 3), am_LP 3 e := List.forall_mem_cons.mpr ⟨wr10 _ (List.mem_of_getElem? (i := 5) rfl), fun _ h => absurd h List.not_mem_nil⟩
set_option maxRecDepth 100000 in
theorem am_lngP7 : ∀ e ∈ (am_lngL 7), am_LP 7 e := List.forall_mem_cons.mpr ⟨wr9 _ (List.mem_of_getElem? (i := 19) rfl), fun _ h => absurd h List.not_mem_nil⟩
set_option maxRecDepth 100000 in
theorem am_lngP10 : ∀ e ∈ (am_lngL 10), am_LP 10 e := List.forall_mem_cons.mpr ⟨wr11 _ (List.mem_of_getElem? (i := 5) rfl), List.forall_mem_cons.mpr ⟨wr21 _ (List.mem_of_getElem? (i := 22) rfl), fun _ h => absurd h List.not_mem_nil⟩⟩
set_option maxRecDepth 100000 in
theorem am_lngP11 : ∀ e ∈ (am_lngL 11), am_LP 11 e := List.forall_mem_cons.mpr ⟨wr19 _ (List.mem_of_getElem? (i := 4) rfl), List.forall_mem_cons.mpr ⟨wr30 _ (List.mem_of_getElem? (i := 0) rfl), fun _ h => absurd h List.not_mem_nil⟩⟩
theorem am_lngP (c : Nat) : ∀ e ∈ am_lngL c, am_LP c e := by
  match c with
  | 0 => exact fun _ h => absurd h List.not_mem_nil
  | 1 => exact fun _ h => absurd h List.not_mem_nil
  | 2 => exact fun _ h => absurd h List.not_mem_nil
  | 3 => exact am_lngP3
  | 4 => exact fun _ h => absurd h List.not_mem_nil
  | 5 => exact fun _ h => absurd h List.not_mem_nil
  | 6 => exact fun _ h => absurd h List.not_mem_nil
  | 7 => exact am_lngP7
  | 8 => exact fun _ h => absurd h List.not_mem_nil
  | 9 => exact fun _ h => absurd h List.not_mem_nil
  | 10 => exact am_lngP10
  | 11 => exact am_lngP11
  | 12 => exact fun _ h => absurd h List.not_mem_nil
  | 13 => exact fun _ h => absurd h List.not_mem_nil
  | 14 => exact fun _ h => absurd h List.not_mem_nil
  | _ + 15 => exact fun _ h => absurd h List.not_mem_nil
set_option maxRecDepth 100000 in
theorem am_newP1 : ∀ e ∈ (am_newL 1), am_NP 1 e := List.forall_mem_cons.mpr ⟨⟨_, rfl, wr3 _ (List.mem_of_getElem? (i := 22) rfl), wr2 _ (List.mem_of_getElem? (i := 11) rfl), wr2 _ (List.mem_of_getElem? (i := 12) rfl)⟩, fun _ h => absurd h List.not_mem_nil⟩
set_option maxRecDepth 100000 in
theorem am_newP2 : ∀ e ∈ (am_newL 2), am_NP 2 e := List.forall_mem_cons.mpr ⟨⟨_, rfl, wr4 _ (List.mem_of_getElem? (i := 21) rfl), wr1 _ (List.mem_of_getElem? (i := 10) rfl), wr1 _ (List.mem_of_getElem? (i := 11) rfl)⟩, fun _ h => absurd h List.not_mem_nil⟩
set_option maxRecDepth 100000 in
theorem am_newP4 : ∀ e ∈ (am_newL 4), am_NP 4 e := List.forall_mem_cons.mpr ⟨⟨_, rfl, wr5 _ (List.mem_of_getElem? (i := 19) rfl), wr2 _ (List.mem_of_getElem? (i := 15) rfl), wr2 _ (List.mem_of_getElem? (i := 16) rfl)⟩, fun _ h => absurd h List.not_mem_nil⟩
set_option maxRecDepth 100000 in
theorem am_newP6 : ∀ e ∈ (am_newL 6), am_NP 6 e := List.forall_mem_cons.mpr ⟨⟨_, rfl, wr6 _ (List.mem_of_getElem? (i := 7) rfl), wr2 _ (List.mem_of_getElem? (i := 15) rfl), wr2 _ (List.mem_of_getElem? (i := 16) rfl)⟩, fun _ h => absurd h List.not_mem_nil⟩
set_option maxRecDepth 100000 in
theorem am_newP7 : ∀ e ∈ (am_newL 7), am_NP 7 e := List.forall_mem_cons.mpr ⟨⟨_, rfl, wr5 _ (List.mem_of_getElem? (i := 14) rfl), wr2 _ (List.mem_of_getElem? (i := 11) rfl), wr2 _ (List.mem_of_getElem? (i := 12) rfl)⟩, fun _ h => absurd h List.not_mem_nil⟩
set_option maxRecDepth 100000 in
theorem am_newP8 : ∀ e ∈ (am_newL 8), am_NP 8 e := List.forall_mem_cons.mpr ⟨⟨_, rfl, wr2 _ (List.mem_of_getElem? (i := 21) rfl), wr2 _ (List.mem_of_getElem? (i := 22) rfl), wr2 _ (List.mem_of_getElem? (i := 23) rfl)⟩, List.forall_mem_cons.mpr ⟨⟨_, rfl, wr3 _ (List.mem_of_getElem? (i := 1) rfl), wr3 _ (List.mem_of_getElem? (i := 2) rfl), wr3 _ (List.mem_of_getElem? (i := 3) rfl)⟩, List.forall_mem_cons.mpr ⟨⟨_, rfl, wr3 _ (List.mem_of_getElem? (i := 5) rfl), wr3 _ (List.mem_of_getElem? (i := 6) rfl), wr3 _ (List.mem_of_getElem? (i := 7) rfl)⟩, fun _ h => absurd h List.not_mem_nil⟩⟩⟩
set_option maxRecDepth 100000 in
theorem am_newP11 : ∀ e ∈ (am_newL 11), am_NP 11 e := List.forall_mem_cons.mpr ⟨⟨_, rfl, wr1 _ (List.mem_of_getElem? (i := 9) rfl), wr1 _ (List.mem_of_getElem? (i := 10) rfl), wr1 _ (List.mem_of_getElem? (i := 11) rfl)⟩, List.forall_mem_cons.mpr ⟨⟨_, rfl, wr1 _ (List.mem_of_getElem? (i := 13) rfl), wr1 _ (List.mem_of_getElem? (i := 14) rfl), wr1 _ (List.mem_of_getElem? (i := 15) rfl)⟩, List.forall_mem_cons.mpr ⟨⟨_, rfl, wr1 _ (List.mem_of_getElem? (i := 18) rfl), wr1 _ (List.mem_of_getElem? (i := 19) rfl), wr1 _ (List.mem_of_getElem? (i := 20) rfl)⟩, List.forall_mem_cons.mpr ⟨⟨_, rfl, wr1 _ (List.mem_of_getElem? (i := 22) rfl), wr1 _ (List.mem_of_getElem? (i := 23) rfl), wr2 _ (List.mem_of_getElem? (i := 0) rfl)⟩, List.forall_mem_cons.mpr ⟨⟨_, rfl, wr2 _ (List.mem_of_getElem? (i := 2) rfl), wr2 _ (List.mem_of_getElem? (i := 3) rfl), wr2 _ (List.mem_of_getElem? (i := 4) rfl)⟩, List.forall_mem_cons.mpr ⟨⟨_, rfl, wr2 _ (List.mem_of_getElem? (i := 6) rfl), wr2 _ (List.mem_of_getElem? (i := 7) rfl), wr2 _ (List.mem_of_getElem? (i := 8) rfl)⟩, List.forall_mem_cons.mpr ⟨⟨_, rfl, wr2 _ (List.mem_of_getElem? (i := 10) rfl), wr2 _ (List.mem_of_getElem? (i := 11) rfl), wr2 _ (List.mem_of_getElem? (i := 12) rfl)⟩, List.forall_mem_cons.mpr ⟨⟨_, rfl, wr2 _ (List.mem_of_getElem? (i := 14) rfl), wr2 _ (List.mem_of_getElem? (i := 15) rfl), wr2 _ (List.mem_of_getElem? (i := 16) rfl)⟩, fun _ h => absurd h List.not_mem_nil⟩⟩⟩⟩⟩⟩⟩⟩
set_option maxRecDepth 100000 in
theorem am_newP14 : ∀ e ∈ (am_newL 14), am_NP 14 e := List.forall_mem_cons.mpr ⟨⟨_, rfl, wr1 _ (List.mem_of_getElem? (i := 0) rfl), wr1 _ (List.mem_of_getElem? (i := 1) rfl), wr1 _ (List.mem_of_getElem? (i := 2) rfl)⟩, fun _ h => absurd h List.not_mem_nil⟩
theorem am_newP (c : Nat) : ∀ e ∈ am_newL c, am_NP c e := by
  match c with
  | 0 => exact fun _ h => absurd h List.not_mem_nil
  | 1 => exact am_newP1
  | 2 => exact am_newP2
  | 3 => exact fun _ h => absurd h List.not_mem_nil
  | 4 => exact am_newP4
  | 5 => exact fun _ h => absurd h List.not_mem_nil
  | 6 => exact am_newP6
  | 7 => exact am_newP7
  | 8 => exact am_newP8
  | 9 => exact fun _ h => absurd h List.not_mem_nil
  | 10 => exact fun _ h => absurd h List.not_mem_nil
  | 11 => exact am_newP11
  | 12 => exact fun _ h => absurd h List.not_mem_nil
  | 13 => exact fun _ h => absurd h List.not_mem_nil
  | 14 => exact am_newP14
  | _ + 15 => exact fun _ h => absurd h List.not_mem_nil
set_option maxRecDepth 100000 in
theorem am_anP1 : ∀ e ∈ (am_anL 1), am_AP 1 e := List.forall_mem_cons.mpr ⟨⟨⟨by decide, by decide⟩, wr3 _ (List.mem_of_getElem? (i := 22) rfl)⟩, fun _ h => absurd h List.not_mem_nil⟩
set_option maxRecDepth 100000 in
theorem am_anP2 : ∀ e ∈ (am_anL 2), am_AP 2 e := List.forall_mem_cons.mpr ⟨⟨⟨by decide, by decide⟩, wr4 _ (List.mem_of_getElem? (i := 21) rfl)⟩, fun _ h => absurd h List.not_mem_nil⟩
set_option maxRecDepth 100000 in
theorem am_anP6 : ∀ e ∈ (am_anL 6), am_AP 6 e := List.forall_mem_cons.mpr ⟨⟨⟨by decide, by decide⟩, wr6 _ (List.mem_of_getElem? (i := 7) rfl)⟩, fun _ h => absurd h List.not_mem_nil⟩
set_option maxRecDepth 100000 in
theorem am_anP7 : ∀ e ∈ (am_anL 7), am_AP 7 e := List.forall_mem_cons.mpr ⟨⟨⟨by decide, by decide⟩, wr5 _ (List.mem_of_getElem? (i := 14) rfl)⟩, fun _ h => absurd h List.not_mem_nil⟩
set_option maxRecDepth 100000 in
theorem am_anP11 : ∀ e ∈ (am_anL 11), am_AP 11 e := List.forall_mem_cons.mpr ⟨⟨⟨by decide, by decide⟩, wr1 _ (List.mem_of_getElem? (i := 9) rfl)⟩, fun _ h => absurd h List.not_mem_nil⟩
theorem am_anP (c : Nat) : ∀ e ∈ am_anL c, am_AP c e := by
  match c with
  | 0 => exact fun _ h => absurd h List.not_mem_nil
  | 1 => exact am_anP1
  | 2 => exact am_anP2
  | 3 => exact fun _ h => absurd h List.not_mem_nil
  | 4 => exact fun _ h => absurd h List.not_mem_nil
  | 5 => exact fun _ h => absurd h List.not_mem_nil
  | 6 => exact am_anP6
  | 7 => exact am_anP7
  | 8 => exact fun _ h => absurd h List.not_mem_nil
  | 9 => exact fun _ h => absurd h List.not_mem_nil
  | 10 => exact fun _ h => absurd h List.not_mem_nil
  | 11 => exact am_anP11
  | 12 => exact fun _ h => absurd h List.not_mem_nil
  | 13 => exact fun _ h => absurd h List.not_mem_nil
  | 14 => exact fun _ h => absurd h List.not_mem_nil
  | _ + 15 => exact fun _ h => absurd h List.not_mem_nil
set_option maxRecDepth 100000 in
theorem am_spP0 : ∀ e ∈ (am_spL 0), am_SP 0 e := List.forall_mem_cons.mpr ⟨⟨fun _ => wr4 _ (List.mem_of_getElem? (i := 4) rfl), fun h => absurd h (by decide), fun h => absurd h (by decide), fun h => absurd h (by decide)⟩, List.forall_mem_cons.mpr ⟨⟨fun h => absurd h (by decide), fun _ => wr13 _ (List.mem_of_getElem? (i := 13) rfl), fun h => absurd h (by decide), fun h => absurd h (by decide)⟩, fun _ h => absurd h List.not_mem_nil⟩⟩
set_option maxRecDepth 100000 in
theorem am_spP1 : ∀ e ∈ (am_spL 1), am_SP 1 e := List.forall_mem_cons.mpr ⟨⟨fun _ => wr3 _ (List.mem_of_getElem? (i := 21) rfl), fun h => absurd h (by decide), fun h => absurd h (by decide), fun h => absurd h (by decide)⟩, fun _ h => absurd h List.not_mem_nil⟩
set_option maxRecDepth 100000 in
theorem am_spP2 : ∀ e ∈ (am_spL 2), am_SP 2 e := List.forall_mem_cons.mpr ⟨⟨fun _ => wr4 _ (List.mem_of_getElem? (i := 20) rfl), fun h => absurd h (by decide), fun h => absurd h (by decide), fun h => absurd h (by decide)⟩, fun _ h => absurd h List.not_mem_nil⟩
set_option maxRecDepth 100000 in
theorem am_spP3 : ∀ e ∈ (am_spL 3), am_SP 3 e := List.forall_mem_cons.mpr ⟨⟨fun _ => wr3 _ (List.mem_of_getElem? (i := 15) rfl), fun h => absurd h (by decide), fun h => absurd h (by decide), fun h => absurd h (by decide)⟩, List.forall_mem_cons.mpr ⟨⟨fun h => absurd h (by decide), fun _ => wr13 _ (List.mem_of_getElem? (i := 3) rfl), fun h => absurd h (by decide), fun h => absurd h (by decide)⟩, fun _ h => absurd h List.not_mem_nil⟩⟩
set_option maxRecDepth 100000 in
theorem am_spP4 : ∀ e ∈ (am_spL 4), am_SP 4 e := List.forall_mem_cons.mpr ⟨⟨fun _ => wr5 _ (List.mem_of_getElem? (i := 18) rfl), fun h => absurd h (by decide), fun h => absurd h (by decide), fun h => absurd h (by decide)⟩, fun _ h => absurd h List.not_mem_nil⟩
set_option maxRecDepth 100000 in
theorem am_spP5 : ∀ e ∈ (am_spL 5), am_SP 5 e := List.forall_mem_cons.mpr ⟨⟨fun _ => wr4 _ (List.mem_of_getElem? (i := 15) rfl), fun h => absurd h (by decide), fun h => absurd h (by decide), fun h => absurd h (by decide)⟩, List.forall_mem_cons.mpr ⟨⟨fun h => absurd h (by decide), fun h => absurd h (by decide), fun _ => wr18 _ (List.mem_of_getElem? (i := 7) rfl), fun h => absurd h (by decide)⟩, List.forall_mem_cons.mpr ⟨⟨fun h => absurd h (by decide), fun _ => wr13 _ (List.mem_of_getElem? (i := 19) rfl), fun h => absurd h (by decide), fun h => absurd h (by decide)⟩, fun _ h => absurd h List.not_mem_nil⟩⟩⟩
set_option maxRecDepth 100000 in
theorem am_spP6 : ∀ e ∈ (am_spL 6), am_SP 6 e := List.forall_mem_cons.mpr ⟨⟨fun _ => wr6 _ (List.mem_of_getElem? (i := 6) rfl), fun h => absurd h (by decide), fun h => absurd h (by decide), fun h => absurd h (by decide)⟩, fun _ h => absurd h List.not_mem_nil⟩
set_option maxRecDepth 100000 in
theorem am_spP7 : ∀ e ∈ (am_spL 7), am_SP 7 e := List.forall_mem_cons.mpr ⟨⟨fun _ => wr5 _ (List.mem_of_getElem? (i := 10) rfl), fun h => absurd h (by decide), fun h => absurd h (by decide), fun h => absurd h (by decide)⟩, List.forall_mem_cons.mpr ⟨⟨fun h => absurd h (by decide), fun h => absurd h (by decide), fun _ => wr9 _ (List.mem_of_getElem? (i := 9) rfl), fun h => absurd h (by decide)⟩, List.forall_mem_cons.mpr ⟨⟨fun h => absurd h (by decide), fun _ => wr17 _ (List.mem_of_getElem? (i := 4) rfl), fun h => absurd h (by decide), fun h => absurd h (by decide)⟩, fun _ h => absurd h List.not_mem_nil⟩⟩⟩
set_option maxRecDepth 100000 in
theorem am_spP8 : ∀ e ∈ (am_spL 8), am_SP 8 e := List.forall_mem_cons.mpr ⟨⟨fun _ => wr2 _ (List.mem_of_getElem? (i := 20) rfl), fun h => absurd h (by decide), fun h => absurd h (by decide), fun h => absurd h (by decide)⟩, List.forall_mem_cons.mpr ⟨⟨fun h => absurd h (by decide), fun _ => wr12 _ (List.mem_of_getElem? (i := 19) rfl), fun h => absurd h (by decide), fun h => absurd h (by decide)⟩, fun _ h => absurd h List.not_mem_nil⟩⟩
set_option maxRecDepth 100000 in
theorem am_spP9 : ∀ e ∈ (am_spL 9), am_SP 9 e := List.forall_mem_cons.mpr ⟨⟨fun _ => wr5 _ (List.mem_of_getElem? (i := 1) rfl), fun h => absurd h (by decide), fun h => absurd h (by decide), fun h => absurd h (by decide)⟩, fun _ h => absurd h List.not_mem_nil⟩
set_option maxRecDepth 100000 in
theorem am_spP10 : ∀ e ∈ (am_spL 10), am_SP 10 e := List.forall_mem_cons.mpr ⟨⟨fun _ => wr6 _ (List.mem_of_getElem? (i := 2) rfl), fun h => absurd h (by decide), fun h => absurd h (by decide), fun h => absurd h (by decide)⟩, fun _ h => absurd h List.not_mem_nil⟩
set_option maxRecDepth 100000 in
theorem am_spP11 : ∀ e ∈ (am_spL 11), am_SP 11 e := List.forall_mem_cons.mpr ⟨⟨fun _ => wr1 _ (List.mem_of_getElem? (i := 6) rfl), fun h => absurd h (by decide), fun h => absurd h (by decide), fun h => absurd h (by decide)⟩, List.forall_mem_cons.mpr ⟨⟨fun h => absurd h (by decide), fun h => absurd h (by decide), fun h => absurd h (by decide), fun _ => wr16 _ (List.mem_of_getElem? (i := 0) rfl)⟩, fun _ h => absurd h List.not_mem_nil⟩⟩
theorem am_spP (c : Nat) : ∀ e ∈ am_spL c, am_SP c e := by
  match c with
  | 0 => exact am_spP0
  | 1 => exact am_spP1
  | 2 => exact am_spP2
  | 3 => exact am_spP3
  | 4 => exact am_spP4
  | 5 => exact am_spP5
  | 6 => exact am_spP6
  | 7 => exact am_spP7
  | 8 => exact am_spP8
  | 9 => exact am_spP9
  | 10 => exact am_spP10
  | 11 => exact am_spP11
  | 12 => exact fun _ h => absurd h List.not_mem_nil
  | 13 => exact fun _ h => absurd h List.not_mem_nil
  | 14 => exact fun _ h => absurd h List.not_mem_nil
  | _ + 15 => exact fun _ h => absurd h List.not_mem_nil
set_option maxRecDepth 100000 in
theorem moJ9_floorMod_7cf53 : am_MO mJ9_floorMod_7cf53 := ⟨wr12 _ (List.mem_of_getElem? (i := 14) rfl), by decide +kernel, ⟨by decide +kernel, by decide +kernel⟩, wr9 _ (List.mem_of_getElem? (i := 11) rfl), rfl⟩
set_option maxRecDepth 100000 in
theorem moL_areAlike : am_MO mL_areAlike := ⟨wr33 _ (List.mem_of_getElem? (i := 13) rfl), by decide +kernel, ⟨by decide +kernel, by decide +kernel⟩, wr6 _ (List.mem_of_getElem? (i := 14) rfl), rfl⟩
set_option maxRecDepth 100000 in
theorem moL_cell : am_MO mL_cell := ⟨wr6 _ (List.mem_of_getElem? (i := 15) rfl), by decide +kernel, ⟨by decide +kernel, by decide +kernel⟩, wr6 _ (List.mem_of_getElem? (i := 14) rfl), rfl⟩
set_option maxRecDepth 100000 in
theorem moL_change : am_MO mL_change := ⟨wr6 _ (List.mem_of_getElem? (i := 23) rfl), by decide +kernel, ⟨by decide +kernel, by decide +kernel⟩, wr6 _ (List.mem_of_getElem? (i := 14) rfl), rfl⟩
set_option maxRecDepth 100000 in
theorem moL_isAccepted : am_MO mL_isAccepted := ⟨wr32 _ (List.mem_of_getElem? (i := 22) rfl), by decide +kernel, ⟨by decide +kernel, by decide +kernel⟩, wr6 _ (List.mem_of_getElem? (i := 14) rfl), rfl⟩
set_option maxRecDepth 100000 in
theorem moL_isAgain : am_MO mL_isAgain := ⟨wr30 _ (List.mem_of_getElem? (i := 19) rfl), by decide +kernel, ⟨by decide +kernel, by decide +kernel⟩, wr6 _ (List.mem_of_getElem? (i := 14) rfl), rfl⟩
set_option maxRecDepth 100000 in
theorem moL_isReport : am_MO mL_isReport := ⟨wr27 _ (List.mem_of_getElem? (i := 22) rfl), by decide +kernel, ⟨by decide +kernel, by decide +kernel⟩, wr6 _ (List.mem_of_getElem? (i := 14) rfl), rfl⟩
set_option maxRecDepth 100000 in
theorem moL_isSorted : am_MO mL_isSorted := ⟨wr32 _ (List.mem_of_getElem? (i := 11) rfl), by decide +kernel, ⟨by decide +kernel, by decide +kernel⟩, wr6 _ (List.mem_of_getElem? (i := 14) rfl), rfl⟩
set_option maxRecDepth 100000 in
theorem moL_low : am_MO mL_low := ⟨wr6 _ (List.mem_of_getElem? (i := 19) rfl), by decide +kernel, ⟨by decide +kernel, by decide +kernel⟩, wr6 _ (List.mem_of_getElem? (i := 14) rfl), rfl⟩
set_option maxRecDepth 100000 in
theorem moL_number : am_MO mL_number := ⟨wr24 _ (List.mem_of_getElem? (i := 19) rfl), by decide +kernel, ⟨by decide +kernel, by decide +kernel⟩, wr6 _ (List.mem_of_getElem? (i := 14) rfl), rfl⟩
set_option maxRecDepth 100000 in
theorem moL_write : am_MO mL_write := ⟨wr24 _ (List.mem_of_getElem? (i := 8) rfl), by decide +kernel, ⟨by decide +kernel, by decide +kernel⟩, wr6 _ (List.mem_of_getElem? (i := 14) rfl), rfl⟩
set_option maxRecDepth 100000 in
theorem moX0_clear : am_MO mX0_clear := ⟨wr4 _ (List.mem_of_getElem? (i := 9) rfl), by decide +kernel, ⟨by decide +kernel, by decide +kernel⟩, wr2 _ (List.mem_of_getElem? (i := 12) rfl), rfl⟩
set_option maxRecDepth 100000 in
theorem moX0_copyFrom : am_MO mX0_copyFrom := ⟨wr13 _ (List.mem_of_getElem? (i := 12) rfl), by decide +kernel, ⟨by decide +kernel, by decide +kernel⟩, wr2 _ (List.mem_of_getElem? (i := 12) rfl), rfl⟩
set_option maxRecDepth 100000 in
theorem moX0_init : am_MO mX0_init := ⟨wr4 _ (List.mem_of_getElem? (i := 3) rfl), by decide +kernel, ⟨by decide +kernel, by decide +kernel⟩, wr2 _ (List.mem_of_getElem? (i := 12) rfl), rfl⟩
set_option maxRecDepth 100000 in
theorem moX0_readFrom : am_MO mX0_readFrom := ⟨wr19 _ (List.mem_of_getElem? (i := 17) rfl), by decide +kernel, ⟨by decide +kernel, by decide +kernel⟩, wr2 _ (List.mem_of_getElem? (i := 12) rfl), rfl⟩
set_option maxRecDepth 100000 in
theorem moX0_show : am_MO mX0_show := ⟨wr16 _ (List.mem_of_getElem? (i := 13) rfl), by decide +kernel, ⟨by decide +kernel, by decide +kernel⟩, wr2 _ (List.mem_of_getElem? (i := 12) rfl), rfl⟩
set_option maxRecDepth 100000 in
theorem moX0_shows : am_MO mX0_shows := ⟨wr10 _ (List.mem_of_getElem? (i := 23) rfl), by decide +kernel, ⟨by decide +kernel, by decide +kernel⟩, wr2 _ (List.mem_of_getElem? (i := 12) rfl), rfl⟩
set_option maxRecDepth 100000 in
theorem moX10_addCard : am_MO mX10_addCard := ⟨wr23 _ (List.mem_of_getElem? (i := 3) rfl), by decide +kernel, ⟨by decide +kernel, by decide +kernel⟩, wr2 _ (List.mem_of_getElem? (i := 16) rfl), rfl⟩
set_option maxRecDepth 100000 in
theorem moX10_addOvertime : am_MO mX10_addOvertime := ⟨wr22 _ (List.mem_of_getElem? (i := 2) rfl), by decide +kernel, ⟨by decide +kernel, by decide +kernel⟩, wr2 _ (List.mem_of_getElem? (i := 16) rfl), rfl⟩
set_option maxRecDepth 100000 in
theorem moX10_clear : am_MO mX10_clear := ⟨wr18 _ (List.mem_of_getElem? (i := 15) rfl), by decide +kernel, ⟨by decide +kernel, by decide +kernel⟩, wr2 _ (List.mem_of_getElem? (i := 16) rfl), rfl⟩
set_option maxRecDepth 100000 in
theorem moX10_fillFrom : am_MO mX10_fillFrom := ⟨wr19 _ (List.mem_of_getElem? (i := 23) rfl), by decide +kernel, ⟨by decide +kernel, by decide +kernel⟩, wr2 _ (List.mem_of_getElem? (i := 16) rfl), rfl⟩
set_option maxRecDepth 100000 in
theorem moX10_init : am_MO mX10_init := ⟨wr6 _ (List.mem_of_getElem? (i := 1) rfl), by decide +kernel, ⟨by decide +kernel, by decide +kernel⟩, wr2 _ (List.mem_of_getElem? (i := 16) rfl), rfl⟩
set_option maxRecDepth 100000 in
theorem moX10_key : am_MO mX10_key := ⟨wr20 _ (List.mem_of_getElem? (i := 14) rfl), by decide +kernel, ⟨by decide +kernel, by decide +kernel⟩, wr2 _ (List.mem_of_getElem? (i := 16) rfl), rfl⟩
set_option maxRecDepth 100000 in
theorem moX10_keyOf : am_MO mX10_keyOf := ⟨wr11 _ (List.mem_of_getElem? (i := 4) rfl), by decide +kernel, ⟨by decide +kernel, by decide +kernel⟩, wr2 _ (List.mem_of_getElem? (i := 16) rfl), rfl⟩
set_option maxRecDepth 100000 in
theorem moX10_overtimeBeyond : am_MO mX10_overtimeBeyond := ⟨wr21 _ (List.mem_of_getElem? (i := 21) rfl), by decide +kernel, ⟨by decide +kernel, by decide +kernel⟩, wr2 _ (List.mem_of_getElem? (i := 16) rfl), rfl⟩
set_option maxRecDepth 100000 in
theorem moX11_acceptedTotal : am_MO mX11_acceptedTotal := ⟨wr32 _ (List.mem_of_getElem? (i := 3) rfl), by decide +kernel, ⟨by decide +kernel, by decide +kernel⟩, wr1 _ (List.mem_of_getElem? (i := 2) rfl), rfl⟩
set_option maxRecDepth 100000 in
theorem moX11_accepts : am_MO mX11_accepts := ⟨wr33 _ (List.mem_of_getElem? (i := 2) rfl), by decide +kernel, ⟨by decide +kernel, by decide +kernel⟩, wr1 _ (List.mem_of_getElem? (i := 2) rfl), rfl⟩
set_option maxRecDepth 100000 in
theorem moX11_again : am_MO mX11_again := ⟨wr30 _ (List.mem_of_getElem? (i := 4) rfl), by decide +kernel, ⟨by decide +kernel, by decide +kernel⟩, wr1 _ (List.mem_of_getElem? (i := 2) rfl), rfl⟩
set_option maxRecDepth 100000 in
theorem moX11_agrees : am_MO mX11_agrees := ⟨wr28 _ (List.mem_of_getElem? (i := 3) rfl), by decide +kernel, ⟨by decide +kernel, by decide +kernel⟩, wr1 _ (List.mem_of_getElem? (i := 2) rfl), rfl⟩
set_option maxRecDepth 100000 in
theorem moX11_back : am_MO mX11_back := ⟨wr24 _ (List.mem_of_getElem? (i := 5) rfl), by decide +kernel, ⟨by decide +kernel, by decide +kernel⟩, wr1 _ (List.mem_of_getElem? (i := 2) rfl), rfl⟩
set_option maxRecDepth 100000 in
theorem moX11_card : am_MO mX11_card := ⟨wr33 _ (List.mem_of_getElem? (i := 6) rfl), by decide +kernel, ⟨by decide +kernel, by decide +kernel⟩, wr1 _ (List.mem_of_getElem? (i := 2) rfl), rfl⟩
set_option maxRecDepth 100000 in
theorem moX11_control : am_MO mX11_control := ⟨wr14 _ (List.mem_of_getElem? (i := 17) rfl), by decide +kernel, ⟨by decide +kernel, by decide +kernel⟩, wr1 _ (List.mem_of_getElem? (i := 2) rfl), rfl⟩
set_option maxRecDepth 100000 in
theorem moX11_differs : am_MO mX11_differs := ⟨wr31 _ (List.mem_of_getElem? (i := 23) rfl), by decide +kernel, ⟨by decide +kernel, by decide +kernel⟩, wr1 _ (List.mem_of_getElem? (i := 2) rfl), rfl⟩
set_option maxRecDepth 100000 in
theorem moX11_faultOfCard : am_MO mX11_faultOfCard := ⟨wr19 _ (List.mem_of_getElem? (i := 12) rfl), by decide +kernel, ⟨by decide +kernel, by decide +kernel⟩, wr1 _ (List.mem_of_getElem? (i := 2) rfl), rfl⟩
set_option maxRecDepth 100000 in
theorem moX11_feedDeck : am_MO mX11_feedDeck := ⟨wr19 _ (List.mem_of_getElem? (i := 3) rfl), by decide +kernel, ⟨by decide +kernel, by decide +kernel⟩, wr1 _ (List.mem_of_getElem? (i := 2) rfl), rfl⟩
set_option maxRecDepth 100000 in
theorem moX11_fits : am_MO mX11_fits := ⟨wr11 _ (List.mem_of_getElem? (i := 23) rfl), by decide +kernel, ⟨by decide +kernel, by decide +kernel⟩, wr1 _ (List.mem_of_getElem? (i := 2) rfl), rfl⟩
set_option maxRecDepth 100000 in
theorem moX11_init : am_MO mX11_init := ⟨wr1 _ (List.mem_of_getElem? (i := 5) rfl), by decide +kernel, ⟨by decide +kernel, by decide +kernel⟩, wr1 _ (List.mem_of_getElem? (i := 2) rfl), rfl⟩
set_option maxRecDepth 100000 in
theorem moX11_isColumn : am_MO mX11_isColumn := ⟨wr11 _ (List.mem_of_getElem? (i := 1) rfl), by decide +kernel, ⟨by decide +kernel, by decide +kernel⟩, wr1 _ (List.mem_of_getElem? (i := 2) rfl), rfl⟩
set_option maxRecDepth 100000 in
theorem moX11_isControl : am_MO mX11_isControl := ⟨wr14 _ (List.mem_of_getElem? (i := 22) rfl), by decide +kernel, ⟨by decide +kernel, by decide +kernel⟩, wr1 _ (List.mem_of_getElem? (i := 2) rfl), rfl⟩
set_option maxRecDepth 100000 in
theorem moX11_isDeckInOrder : am_MO mX11_isDeckInOrder := ⟨wr9 _ (List.mem_of_getElem? (i := 3) rfl), by decide +kernel, ⟨by decide +kernel, by decide +kernel⟩, wr1 _ (List.mem_of_getElem? (i := 2) rfl), rfl⟩
set_option maxRecDepth 100000 in
theorem moX11_isField : am_MO mX11_isField := ⟨wr10 _ (List.mem_of_getElem? (i := 15) rfl), by decide +kernel, ⟨by decide +kernel, by decide +kernel⟩, wr1 _ (List.mem_of_getElem? (i := 2) rfl), rfl⟩
set_option maxRecDepth 100000 in
theorem moX11_isSetting : am_MO mX11_isSetting := ⟨wr14 _ (List.mem_of_getElem? (i := 9) rfl), by decide +kernel, ⟨by decide +kernel, by decide +kernel⟩, wr1 _ (List.mem_of_getElem? (i := 2) rfl), rfl⟩
set_option maxRecDepth 100000 in
theorem moX11_isWithin : am_MO mX11_isWithin := ⟨wr8 _ (List.mem_of_getElem? (i := 9) rfl), by decide +kernel, ⟨by decide +kernel, by decide +kernel⟩, wr1 _ (List.mem_of_getElem? (i := 2) rfl), rfl⟩
set_option maxRecDepth 100000 in
theorem moX11_keep : am_MO mX11_keep := ⟨wr24 _ (List.mem_of_getElem? (i := 0) rfl), by decide +kernel, ⟨by decide +kernel, by decide +kernel⟩, wr1 _ (List.mem_of_getElem? (i := 2) rfl), rfl⟩
set_option maxRecDepth 100000 in
theorem moX11_lay : am_MO mX11_lay := ⟨wr11 _ (List.mem_of_getElem? (i := 19) rfl), by decide +kernel, ⟨by decide +kernel, by decide +kernel⟩, wr1 _ (List.mem_of_getElem? (i := 2) rfl), rfl⟩
set_option maxRecDepth 100000 in
theorem moX11_line : am_MO mX11_line := ⟨wr30 _ (List.mem_of_getElem? (i := 8) rfl), by decide +kernel, ⟨by decide +kernel, by decide +kernel⟩, wr1 _ (List.mem_of_getElem? (i := 2) rfl), rfl⟩
set_option maxRecDepth 100000 in
theorem moX11_mark : am_MO mX11_mark := ⟨wr16 _ (List.mem_of_getElem? (i := 17) rfl), by decide +kernel, ⟨by decide +kernel, by decide +kernel⟩, wr1 _ (List.mem_of_getElem? (i := 2) rfl), rfl⟩
set_option maxRecDepth 100000 in
theorem moX11_mean : am_MO mX11_mean := ⟨wr29 _ (List.mem_of_getElem? (i := 23) rfl), by decide +kernel, ⟨by decide +kernel, by decide +kernel⟩, wr1 _ (List.mem_of_getElem? (i := 2) rfl), rfl⟩
set_option maxRecDepth 100000 in
theorem moX11_move : am_MO mX11_move := ⟨wr15 _ (List.mem_of_getElem? (i := 23) rfl), by decide +kernel, ⟨by decide +kernel, by decide +kernel⟩, wr1 _ (List.mem_of_getElem? (i := 2) rfl), rfl⟩
set_option maxRecDepth 100000 in
theorem moX11_pass : am_MO mX11_pass := ⟨wr16 _ (List.mem_of_getElem? (i := 23) rfl), by decide +kernel, ⟨by decide +kernel, by decide +kernel⟩, wr1 _ (List.mem_of_getElem? (i := 2) rfl), rfl⟩
set_option maxRecDepth 100000 in
theorem moX11_passByKeyColumns : am_MO mX11_passByKeyColumns := ⟨wr32 _ (List.mem_of_getElem? (i := 19) rfl), by decide +kernel, ⟨by decide +kernel, by decide +kernel⟩, wr1 _ (List.mem_of_getElem? (i := 2) rfl), rfl⟩
set_option maxRecDepth 100000 in
theorem moX11_passes : am_MO mX11_passes := ⟨wr32 _ (List.mem_of_getElem? (i := 15) rfl), by decide +kernel, ⟨by decide +kernel, by decide +kernel⟩, wr1 _ (List.mem_of_getElem? (i := 2) rfl), rfl⟩
set_option maxRecDepth 100000 in
theorem moX11_printJudged : am_MO mX11_printJudged := ⟨wr20 _ (List.mem_of_getElem? (i := 19) rfl), by decide +kernel, ⟨by decide +kernel, by decide +kernel⟩, wr1 _ (List.mem_of_getElem? (i := 2) rfl), rfl⟩
set_option maxRecDepth 100000 in
theorem moX11_punch : am_MO mX11_punch := ⟨wr25 _ (List.mem_of_getElem? (i := 8) rfl), by decide +kernel, ⟨by decide +kernel, by decide +kernel⟩, wr1 _ (List.mem_of_getElem? (i := 2) rfl), rfl⟩
set_option maxRecDepth 100000 in
theorem moX11_ranked : am_MO mX11_ranked := ⟨wr30 _ (List.mem_of_getElem? (i := 23) rfl), by decide +kernel, ⟨by decide +kernel, by decide +kernel⟩, wr1 _ (List.mem_of_getElem? (i := 2) rfl), rfl⟩
set_option maxRecDepth 100000 in
theorem moX11_reason : am_MO mX11_reason := ⟨wr30 _ (List.mem_of_getElem? (i := 14) rfl), by decide +kernel, ⟨by decide +kernel, by decide +kernel⟩, wr1 _ (List.mem_of_getElem? (i := 2) rfl), rfl⟩
set_option maxRecDepth 100000 in
theorem moX11_refusal : am_MO mX11_refusal := ⟨wr19 _ (List.mem_of_getElem? (i := 8) rfl), by decide +kernel, ⟨by decide +kernel, by decide +kernel⟩, wr1 _ (List.mem_of_getElem? (i := 2) rfl), rfl⟩
set_option maxRecDepth 100000 in
theorem moX11_repunch : am_MO mX11_repunch := ⟨wr16 _ (List.mem_of_getElem? (i := 7) rfl), by decide +kernel, ⟨by decide +kernel, by decide +kernel⟩, wr1 _ (List.mem_of_getElem? (i := 2) rfl), rfl⟩
set_option maxRecDepth 100000 in
theorem moX11_run : am_MO mX11_run := ⟨wr18 _ (List.mem_of_getElem? (i := 2) rfl), by decide +kernel, ⟨by decide +kernel, by decide +kernel⟩, wr1 _ (List.mem_of_getElem? (i := 2) rfl), rfl⟩
set_option maxRecDepth 100000 in
theorem moX11_set : am_MO mX11_set := ⟨wr14 _ (List.mem_of_getElem? (i := 4) rfl), by decide +kernel, ⟨by decide +kernel, by decide +kernel⟩, wr1 _ (List.mem_of_getElem? (i := 2) rfl), rfl⟩
set_option maxRecDepth 100000 in
theorem moX11_setting : am_MO mX11_setting := ⟨wr33 _ (List.mem_of_getElem? (i := 10) rfl), by decide +kernel, ⟨by decide +kernel, by decide +kernel⟩, wr1 _ (List.mem_of_getElem? (i := 2) rfl), rfl⟩
set_option maxRecDepth 100000 in
theorem moX11_sort : am_MO mX11_sort := ⟨wr17 _ (List.mem_of_getElem? (i := 21) rfl), by decide +kernel, ⟨by decide +kernel, by decide +kernel⟩, wr1 _ (List.mem_of_getElem? (i := 2) rfl), rfl⟩
set_option maxRecDepth 100000 in
theorem moX11_take : am_MO mX11_take := ⟨wr15 _ (List.mem_of_getElem? (i := 2) rfl), by decide +kernel, ⟨by decide +kernel, by decide +kernel⟩, wr1 _ (List.mem_of_getElem? (i := 2) rfl), rfl⟩
set_option maxRecDepth 100000 in
theorem moX11_told : am_MO mX11_told := ⟨wr7 _ (List.mem_of_getElem? (i := 4) rfl), by decide +kernel, ⟨by decide +kernel, by decide +kernel⟩, wr1 _ (List.mem_of_getElem? (i := 2) rfl), rfl⟩
set_option maxRecDepth 100000 in
theorem moX11_undo : am_MO mX11_undo := ⟨wr23 _ (List.mem_of_getElem? (i := 11) rfl), by decide +kernel, ⟨by decide +kernel, by decide +kernel⟩, wr1 _ (List.mem_of_getElem? (i := 2) rfl), rfl⟩
set_option maxRecDepth 100000 in
theorem moX11_wipe : am_MO mX11_wipe := ⟨wr24 _ (List.mem_of_getElem? (i := 12) rfl), by decide +kernel, ⟨by decide +kernel, by decide +kernel⟩, wr1 _ (List.mem_of_getElem? (i := 2) rfl), rfl⟩
set_option maxRecDepth 100000 in
theorem moX11_write : am_MO mX11_write := ⟨wr24 _ (List.mem_of_getElem? (i := 23) rfl), by decide +kernel, ⟨by decide +kernel, by decide +kernel⟩, wr1 _ (List.mem_of_getElem? (i := 2) rfl), rfl⟩
set_option maxRecDepth 100000 in
theorem moX1_at : am_MO mX1_at := ⟨wr9 _ (List.mem_of_getElem? (i := 23) rfl), by decide +kernel, ⟨by decide +kernel, by decide +kernel⟩, wr3 _ (List.mem_of_getElem? (i := 3) rfl), rfl⟩
set_option maxRecDepth 100000 in
theorem moX1_carry : am_MO mX1_carry := ⟨wr15 _ (List.mem_of_getElem? (i := 15) rfl), by decide +kernel, ⟨by decide +kernel, by decide +kernel⟩, wr3 _ (List.mem_of_getElem? (i := 3) rfl), rfl⟩
set_option maxRecDepth 100000 in
theorem moX1_copyFrom : am_MO mX1_copyFrom := ⟨wr13 _ (List.mem_of_getElem? (i := 7) rfl), by decide +kernel, ⟨by decide +kernel, by decide +kernel⟩, wr3 _ (List.mem_of_getElem? (i := 3) rfl), rfl⟩
set_option maxRecDepth 100000 in
theorem moX1_has : am_MO mX1_has := ⟨wr15 _ (List.mem_of_getElem? (i := 6) rfl), by decide +kernel, ⟨by decide +kernel, by decide +kernel⟩, wr3 _ (List.mem_of_getElem? (i := 3) rfl), rfl⟩
set_option maxRecDepth 100000 in
theorem moX1_init : am_MO mX1_init := ⟨wr3 _ (List.mem_of_getElem? (i := 20) rfl), by decide +kernel, ⟨by decide +kernel, by decide +kernel⟩, wr3 _ (List.mem_of_getElem? (i := 3) rfl), rfl⟩
set_option maxRecDepth 100000 in
theorem moX1_insertBlank : am_MO mX1_insertBlank := ⟨wr27 _ (List.mem_of_getElem? (i := 8) rfl), by decide +kernel, ⟨by decide +kernel, by decide +kernel⟩, wr3 _ (List.mem_of_getElem? (i := 3) rfl), rfl⟩
set_option maxRecDepth 100000 in
theorem moX1_put : am_MO mX1_put := ⟨wr15 _ (List.mem_of_getElem? (i := 19) rfl), by decide +kernel, ⟨by decide +kernel, by decide +kernel⟩, wr3 _ (List.mem_of_getElem? (i := 3) rfl), rfl⟩
set_option maxRecDepth 100000 in
theorem moX1_remove : am_MO mX1_remove := ⟨wr15 _ (List.mem_of_getElem? (i := 10) rfl), by decide +kernel, ⟨by decide +kernel, by decide +kernel⟩, wr3 _ (List.mem_of_getElem? (i := 3) rfl), rfl⟩
set_option maxRecDepth 100000 in
theorem moX1_size : am_MO mX1_size := ⟨wr7 _ (List.mem_of_getElem? (i := 13) rfl), by decide +kernel, ⟨by decide +kernel, by decide +kernel⟩, wr3 _ (List.mem_of_getElem? (i := 3) rfl), rfl⟩
set_option maxRecDepth 100000 in
theorem moX2_at : am_MO mX2_at := ⟨wr12 _ (List.mem_of_getElem? (i := 10) rfl), by decide +kernel, ⟨by decide +kernel, by decide +kernel⟩, wr1 _ (List.mem_of_getElem? (i := 15) rfl), rfl⟩
set_option maxRecDepth 100000 in
theorem moX2_init : am_MO mX2_init := ⟨wr4 _ (List.mem_of_getElem? (i := 19) rfl), by decide +kernel, ⟨by decide +kernel, by decide +kernel⟩, wr1 _ (List.mem_of_getElem? (i := 15) rfl), rfl⟩
set_option maxRecDepth 100000 in
theorem moX2_isEmpty : am_MO mX2_isEmpty := ⟨wr23 _ (List.mem_of_getElem? (i := 16) rfl), by decide +kernel, ⟨by decide +kernel, by decide +kernel⟩, wr1 _ (List.mem_of_getElem? (i := 15) rfl), rfl⟩
set_option maxRecDepth 100000 in
theorem moX2_record : am_MO mX2_record := ⟨wr12 _ (List.mem_of_getElem? (i := 5) rfl), by decide +kernel, ⟨by decide +kernel, by decide +kernel⟩, wr1 _ (List.mem_of_getElem? (i := 15) rfl), rfl⟩
set_option maxRecDepth 100000 in
theorem moX2_restoreInto : am_MO mX2_restoreInto := ⟨wr23 _ (List.mem_of_getElem? (i := 20) rfl), by decide +kernel, ⟨by decide +kernel, by decide +kernel⟩, wr1 _ (List.mem_of_getElem? (i := 15) rfl), rfl⟩
set_option maxRecDepth 100000 in
theorem moX2_size : am_MO mX2_size := ⟨wr11 _ (List.mem_of_getElem? (i := 14) rfl), by decide +kernel, ⟨by decide +kernel, by decide +kernel⟩, wr1 _ (List.mem_of_getElem? (i := 15) rfl), rfl⟩
set_option maxRecDepth 100000 in
theorem moX3_copyFrom : am_MO mX3_copyFrom := ⟨wr13 _ (List.mem_of_getElem? (i := 2) rfl), by decide +kernel, ⟨by decide +kernel, by decide +kernel⟩, wr2 _ (List.mem_of_getElem? (i := 23) rfl), rfl⟩
set_option maxRecDepth 100000 in
theorem moX3_dueOn : am_MO mX3_dueOn := ⟨wr20 _ (List.mem_of_getElem? (i := 6) rfl), by decide +kernel, ⟨by decide +kernel, by decide +kernel⟩, wr2 _ (List.mem_of_getElem? (i := 23) rfl), rfl⟩
set_option maxRecDepth 100000 in
theorem moX3_firstOf : am_MO mX3_firstOf := ⟨wr10 _ (List.mem_of_getElem? (i := 13) rfl), by decide +kernel, ⟨by decide +kernel, by decide +kernel⟩, wr2 _ (List.mem_of_getElem? (i := 23) rfl), rfl⟩
set_option maxRecDepth 100000 in
theorem moX3_init : am_MO mX3_init := ⟨wr3 _ (List.mem_of_getElem? (i := 14) rfl), by decide +kernel, ⟨by decide +kernel, by decide +kernel⟩, wr2 _ (List.mem_of_getElem? (i := 23) rfl), rfl⟩
set_option maxRecDepth 100000 in
theorem moX3_keyOn : am_MO mX3_keyOn := ⟨wr10 _ (List.mem_of_getElem? (i := 3) rfl), by decide +kernel, ⟨by decide +kernel, by decide +kernel⟩, wr2 _ (List.mem_of_getElem? (i := 23) rfl), rfl⟩
set_option maxRecDepth 100000 in
theorem moX3_place : am_MO mX3_place := ⟨wr14 _ (List.mem_of_getElem? (i := 0) rfl), by decide +kernel, ⟨by decide +kernel, by decide +kernel⟩, wr2 _ (List.mem_of_getElem? (i := 23) rfl), rfl⟩
set_option maxRecDepth 100000 in
theorem moX3_valueOn : am_MO mX3_valueOn := ⟨wr10 _ (List.mem_of_getElem? (i := 9) rfl), by decide +kernel, ⟨by decide +kernel, by decide +kernel⟩, wr2 _ (List.mem_of_getElem? (i := 23) rfl), rfl⟩
set_option maxRecDepth 100000 in
theorem moX3_weighedDigits : am_MO mX3_weighedDigits := ⟨wr20 _ (List.mem_of_getElem? (i := 10) rfl), by decide +kernel, ⟨by decide +kernel, by decide +kernel⟩, wr2 _ (List.mem_of_getElem? (i := 23) rfl), rfl⟩
set_option maxRecDepth 100000 in
theorem moX3_widthOf : am_MO mX3_widthOf := ⟨wr10 _ (List.mem_of_getElem? (i := 19) rfl), by decide +kernel, ⟨by decide +kernel, by decide +kernel⟩, wr2 _ (List.mem_of_getElem? (i := 23) rfl), rfl⟩
set_option maxRecDepth 100000 in
theorem moX4_accept : am_MO mX4_accept := ⟨wr21 _ (List.mem_of_getElem? (i := 3) rfl), by decide +kernel, ⟨by decide +kernel, by decide +kernel⟩, wr2 _ (List.mem_of_getElem? (i := 4) rfl), rfl⟩
set_option maxRecDepth 100000 in
theorem moX4_begin : am_MO mX4_begin := ⟨wr18 _ (List.mem_of_getElem? (i := 11) rfl), by decide +kernel, ⟨by decide +kernel, by decide +kernel⟩, wr2 _ (List.mem_of_getElem? (i := 4) rfl), rfl⟩
set_option maxRecDepth 100000 in
theorem moX4_breakBefore : am_MO mX4_breakBefore := ⟨wr21 _ (List.mem_of_getElem? (i := 9) rfl), by decide +kernel, ⟨by decide +kernel, by decide +kernel⟩, wr2 _ (List.mem_of_getElem? (i := 4) rfl), rfl⟩
set_option maxRecDepth 100000 in
theorem moX4_breakDepartment : am_MO mX4_breakDepartment := ⟨wr22 _ (List.mem_of_getElem? (i := 23) rfl), by decide +kernel, ⟨by decide +kernel, by decide +kernel⟩, wr2 _ (List.mem_of_getElem? (i := 4) rfl), rfl⟩
set_option maxRecDepth 100000 in
theorem moX4_breakGroup : am_MO mX4_breakGroup := ⟨wr22 _ (List.mem_of_getElem? (i := 19) rfl), by decide +kernel, ⟨by decide +kernel, by decide +kernel⟩, wr2 _ (List.mem_of_getElem? (i := 4) rfl), rfl⟩
set_option maxRecDepth 100000 in
theorem moX4_breakWorker : am_MO mX4_breakWorker := ⟨wr21 _ (List.mem_of_getElem? (i := 15) rfl), by decide +kernel, ⟨by decide +kernel, by decide +kernel⟩, wr2 _ (List.mem_of_getElem? (i := 4) rfl), rfl⟩
set_option maxRecDepth 100000 in
theorem moX4_end : am_MO mX4_end := ⟨wr23 _ (List.mem_of_getElem? (i := 7) rfl), by decide +kernel, ⟨by decide +kernel, by decide +kernel⟩, wr2 _ (List.mem_of_getElem? (i := 4) rfl), rfl⟩
set_option maxRecDepth 100000 in
theorem moX4_init : am_MO mX4_init := ⟨wr5 _ (List.mem_of_getElem? (i := 17) rfl), by decide +kernel, ⟨by decide +kernel, by decide +kernel⟩, wr2 _ (List.mem_of_getElem? (i := 4) rfl), rfl⟩
set_option maxRecDepth 100000 in
theorem moX5_begin : am_MO mX5_begin := ⟨wr18 _ (List.mem_of_getElem? (i := 6) rfl), by decide +kernel, ⟨by decide +kernel, by decide +kernel⟩, wr3 _ (List.mem_of_getElem? (i := 7) rfl), rfl⟩
set_option maxRecDepth 100000 in
theorem moX5_copyFrom : am_MO mX5_copyFrom := ⟨wr13 _ (List.mem_of_getElem? (i := 17) rfl), by decide +kernel, ⟨by decide +kernel, by decide +kernel⟩, wr3 _ (List.mem_of_getElem? (i := 7) rfl), rfl⟩
set_option maxRecDepth 100000 in
theorem moX5_hadCard : am_MO mX5_hadCard := ⟨wr8 _ (List.mem_of_getElem? (i := 23) rfl), by decide +kernel, ⟨by decide +kernel, by decide +kernel⟩, wr3 _ (List.mem_of_getElem? (i := 7) rfl), rfl⟩
set_option maxRecDepth 100000 in
theorem moX5_has : am_MO mX5_has := ⟨wr8 _ (List.mem_of_getElem? (i := 7) rfl), by decide +kernel, ⟨by decide +kernel, by decide +kernel⟩, wr3 _ (List.mem_of_getElem? (i := 7) rfl), rfl⟩
set_option maxRecDepth 100000 in
theorem moX5_init : am_MO mX5_init := ⟨wr4 _ (List.mem_of_getElem? (i := 14) rfl), by decide +kernel, ⟨by decide +kernel, by decide +kernel⟩, wr3 _ (List.mem_of_getElem? (i := 7) rfl), rfl⟩
set_option maxRecDepth 100000 in
theorem moX5_isCard : am_MO mX5_isCard := ⟨wr28 _ (List.mem_of_getElem? (i := 14) rfl), by decide +kernel, ⟨by decide +kernel, by decide +kernel⟩, wr3 _ (List.mem_of_getElem? (i := 7) rfl), rfl⟩
set_option maxRecDepth 100000 in
theorem moX5_isEmpty : am_MO mX5_isEmpty := ⟨wr7 _ (List.mem_of_getElem? (i := 18) rfl), by decide +kernel, ⟨by decide +kernel, by decide +kernel⟩, wr3 _ (List.mem_of_getElem? (i := 7) rfl), rfl⟩
set_option maxRecDepth 100000 in
theorem moX5_judge : am_MO mX5_judge := ⟨wr20 _ (List.mem_of_getElem? (i := 23) rfl), by decide +kernel, ⟨by decide +kernel, by decide +kernel⟩, wr3 _ (List.mem_of_getElem? (i := 7) rfl), rfl⟩
set_option maxRecDepth 100000 in
theorem moX5_lastLine : am_MO mX5_lastLine := ⟨wr7 _ (List.mem_of_getElem? (i := 23) rfl), by decide +kernel, ⟨by decide +kernel, by decide +kernel⟩, wr3 _ (List.mem_of_getElem? (i := 7) rfl), rfl⟩
set_option maxRecDepth 100000 in
theorem moX5_number : am_MO mX5_number := ⟨wr8 _ (List.mem_of_getElem? (i := 3) rfl), by decide +kernel, ⟨by decide +kernel, by decide +kernel⟩, wr3 _ (List.mem_of_getElem? (i := 7) rfl), rfl⟩
set_option maxRecDepth 100000 in
theorem moX5_print : am_MO mX5_print := ⟨wr22 _ (List.mem_of_getElem? (i := 6) rfl), by decide +kernel, ⟨by decide +kernel, by decide +kernel⟩, wr3 _ (List.mem_of_getElem? (i := 7) rfl), rfl⟩
set_option maxRecDepth 100000 in
theorem moX5_readCard : am_MO mX5_readCard := ⟨wr28 _ (List.mem_of_getElem? (i := 18) rfl), by decide +kernel, ⟨by decide +kernel, by decide +kernel⟩, wr3 _ (List.mem_of_getElem? (i := 7) rfl), rfl⟩
set_option maxRecDepth 100000 in
theorem moX5_reasonOf : am_MO mX5_reasonOf := ⟨wr8 _ (List.mem_of_getElem? (i := 18) rfl), by decide +kernel, ⟨by decide +kernel, by decide +kernel⟩, wr3 _ (List.mem_of_getElem? (i := 7) rfl), rfl⟩
set_option maxRecDepth 100000 in
theorem moX5_refusedCards : am_MO mX5_refusedCards := ⟨wr8 _ (List.mem_of_getElem? (i := 13) rfl), by decide +kernel, ⟨by decide +kernel, by decide +kernel⟩, wr3 _ (List.mem_of_getElem? (i := 7) rfl), rfl⟩
set_option maxRecDepth 100000 in
theorem moX5_sumOfWorkers : am_MO mX5_sumOfWorkers := ⟨wr32 _ (List.mem_of_getElem? (i := 7) rfl), by decide +kernel, ⟨by decide +kernel, by decide +kernel⟩, wr3 _ (List.mem_of_getElem? (i := 7) rfl), rfl⟩
set_option maxRecDepth 100000 in
theorem moX6_at : am_MO mX6_at := ⟨wr29 _ (List.mem_of_getElem? (i := 3) rfl), by decide +kernel, ⟨by decide +kernel, by decide +kernel⟩, wr2 _ (List.mem_of_getElem? (i := 8) rfl), rfl⟩
set_option maxRecDepth 100000 in
theorem moX6_init : am_MO mX6_init := ⟨wr6 _ (List.mem_of_getElem? (i := 5) rfl), by decide +kernel, ⟨by decide +kernel, by decide +kernel⟩, wr2 _ (List.mem_of_getElem? (i := 8) rfl), rfl⟩
set_option maxRecDepth 100000 in
theorem moX6_isAhead : am_MO mX6_isAhead := ⟨wr31 _ (List.mem_of_getElem? (i := 14) rfl), by decide +kernel, ⟨by decide +kernel, by decide +kernel⟩, wr2 _ (List.mem_of_getElem? (i := 8) rfl), rfl⟩
set_option maxRecDepth 100000 in
theorem moX6_numberOf : am_MO mX6_numberOf := ⟨wr29 _ (List.mem_of_getElem? (i := 15) rfl), by decide +kernel, ⟨by decide +kernel, by decide +kernel⟩, wr2 _ (List.mem_of_getElem? (i := 8) rfl), rfl⟩
set_option maxRecDepth 100000 in
theorem moX6_ofKey : am_MO mX6_ofKey := ⟨wr28 _ (List.mem_of_getElem? (i := 23) rfl), by decide +kernel, ⟨by decide +kernel, by decide +kernel⟩, wr2 _ (List.mem_of_getElem? (i := 8) rfl), rfl⟩
set_option maxRecDepth 100000 in
theorem moX6_put : am_MO mX6_put := ⟨wr31 _ (List.mem_of_getElem? (i := 18) rfl), by decide +kernel, ⟨by decide +kernel, by decide +kernel⟩, wr2 _ (List.mem_of_getElem? (i := 8) rfl), rfl⟩
set_option maxRecDepth 100000 in
theorem moX6_rank : am_MO mX6_rank := ⟨wr31 _ (List.mem_of_getElem? (i := 11) rfl), by decide +kernel, ⟨by decide +kernel, by decide +kernel⟩, wr2 _ (List.mem_of_getElem? (i := 8) rfl), rfl⟩
set_option maxRecDepth 100000 in
theorem moX6_reckon : am_MO mX6_reckon := ⟨wr28 _ (List.mem_of_getElem? (i := 7) rfl), by decide +kernel, ⟨by decide +kernel, by decide +kernel⟩, wr2 _ (List.mem_of_getElem? (i := 8) rfl), rfl⟩
set_option maxRecDepth 100000 in
theorem moX6_size : am_MO mX6_size := ⟨wr31 _ (List.mem_of_getElem? (i := 7) rfl), by decide +kernel, ⟨by decide +kernel, by decide +kernel⟩, wr2 _ (List.mem_of_getElem? (i := 8) rfl), rfl⟩
set_option maxRecDepth 100000 in
theorem moX6_sum : am_MO mX6_sum := ⟨wr29 _ (List.mem_of_getElem? (i := 11) rfl), by decide +kernel, ⟨by decide +kernel, by decide +kernel⟩, wr2 _ (List.mem_of_getElem? (i := 8) rfl), rfl⟩
set_option maxRecDepth 100000 in
theorem moX7_arrange : am_MO mX7_arrange := ⟨wr17 _ (List.mem_of_getElem? (i := 16) rfl), by decide +kernel, ⟨by decide +kernel, by decide +kernel⟩, wr2 _ (List.mem_of_getElem? (i := 0) rfl), rfl⟩
set_option maxRecDepth 100000 in
theorem moX7_begin : am_MO mX7_begin := ⟨wr9 _ (List.mem_of_getElem? (i := 8) rfl), by decide +kernel, ⟨by decide +kernel, by decide +kernel⟩, wr2 _ (List.mem_of_getElem? (i := 0) rfl), rfl⟩
set_option maxRecDepth 100000 in
theorem moX7_findStarts : am_MO mX7_findStarts := ⟨wr17 _ (List.mem_of_getElem? (i := 8) rfl), by decide +kernel, ⟨by decide +kernel, by decide +kernel⟩, wr2 _ (List.mem_of_getElem? (i := 0) rfl), rfl⟩
set_option maxRecDepth 100000 in
theorem moX7_init : am_MO mX7_init := ⟨wr5 _ (List.mem_of_getElem? (i := 9) rfl), by decide +kernel, ⟨by decide +kernel, by decide +kernel⟩, wr2 _ (List.mem_of_getElem? (i := 0) rfl), rfl⟩
set_option maxRecDepth 100000 in
theorem moX7_isInKeyOrder : am_MO mX7_isInKeyOrder := ⟨wr9 _ (List.mem_of_getElem? (i := 18) rfl), by decide +kernel, ⟨by decide +kernel, by decide +kernel⟩, wr2 _ (List.mem_of_getElem? (i := 0) rfl), rfl⟩
set_option maxRecDepth 100000 in
theorem moX7_passBy : am_MO mX7_passBy := ⟨wr17 _ (List.mem_of_getElem? (i := 3) rfl), by decide +kernel, ⟨by decide +kernel, by decide +kernel⟩, wr2 _ (List.mem_of_getElem? (i := 0) rfl), rfl⟩
set_option maxRecDepth 100000 in
theorem moX7_stackOf : am_MO mX7_stackOf := ⟨wr17 _ (List.mem_of_getElem? (i := 11) rfl), by decide +kernel, ⟨by decide +kernel, by decide +kernel⟩, wr2 _ (List.mem_of_getElem? (i := 0) rfl), rfl⟩
set_option maxRecDepth 100000 in
theorem moX8_copyFrom : am_MO mX8_copyFrom := ⟨wr12 _ (List.mem_of_getElem? (i := 18) rfl), by decide +kernel, ⟨by decide +kernel, by decide +kernel⟩, wr1 _ (List.mem_of_getElem? (i := 11) rfl), rfl⟩
set_option maxRecDepth 100000 in
theorem moX8_init : am_MO mX8_init := ⟨wr2 _ (List.mem_of_getElem? (i := 19) rfl), by decide +kernel, ⟨by decide +kernel, by decide +kernel⟩, wr1 _ (List.mem_of_getElem? (i := 11) rfl), rfl⟩
set_option maxRecDepth 100000 in
theorem moX8_settingOf : am_MO mX8_settingOf := ⟨wr14 _ (List.mem_of_getElem? (i := 13) rfl), by decide +kernel, ⟨by decide +kernel, by decide +kernel⟩, wr1 _ (List.mem_of_getElem? (i := 11) rfl), rfl⟩
set_option maxRecDepth 100000 in
theorem moX9_append : am_MO mX9_append := ⟨wr25 _ (List.mem_of_getElem? (i := 4) rfl), by decide +kernel, ⟨by decide +kernel, by decide +kernel⟩, wr1 _ (List.mem_of_getElem? (i := 20) rfl), rfl⟩
set_option maxRecDepth 100000 in
theorem moX9_at : am_MO mX9_at := ⟨wr25 _ (List.mem_of_getElem? (i := 21) rfl), by decide +kernel, ⟨by decide +kernel, by decide +kernel⟩, wr1 _ (List.mem_of_getElem? (i := 20) rfl), rfl⟩
set_option maxRecDepth 100000 in
theorem moX9_clear : am_MO mX9_clear := ⟨wr24 _ (List.mem_of_getElem? (i := 16) rfl), by decide +kernel, ⟨by decide +kernel, by decide +kernel⟩, wr1 _ (List.mem_of_getElem? (i := 20) rfl), rfl⟩
set_option maxRecDepth 100000 in
theorem moX9_countDigit : am_MO mX9_countDigit := ⟨wr26 _ (List.mem_of_getElem? (i := 16) rfl), by decide +kernel, ⟨by decide +kernel, by decide +kernel⟩, wr1 _ (List.mem_of_getElem? (i := 20) rfl), rfl⟩
set_option maxRecDepth 100000 in
theorem moX9_digitsOf : am_MO mX9_digitsOf := ⟨wr26 _ (List.mem_of_getElem? (i := 4) rfl), by decide +kernel, ⟨by decide +kernel, by decide +kernel⟩, wr1 _ (List.mem_of_getElem? (i := 20) rfl), rfl⟩
set_option maxRecDepth 100000 in
theorem moX9_endsBehindLetter : am_MO mX9_endsBehindLetter := ⟨wr27 _ (List.mem_of_getElem? (i := 4) rfl), by decide +kernel, ⟨by decide +kernel, by decide +kernel⟩, wr1 _ (List.mem_of_getElem? (i := 20) rfl), rfl⟩
set_option maxRecDepth 100000 in
theorem moX9_fieldOf : am_MO mX9_fieldOf := ⟨wr26 _ (List.mem_of_getElem? (i := 0) rfl), by decide +kernel, ⟨by decide +kernel, by decide +kernel⟩, wr1 _ (List.mem_of_getElem? (i := 20) rfl), rfl⟩
set_option maxRecDepth 100000 in
theorem moX9_hasWord : am_MO mX9_hasWord := ⟨wr27 _ (List.mem_of_getElem? (i := 0) rfl), by decide +kernel, ⟨by decide +kernel, by decide +kernel⟩, wr1 _ (List.mem_of_getElem? (i := 20) rfl), rfl⟩
set_option maxRecDepth 100000 in
theorem moX9_init : am_MO mX9_init := ⟨wr5 _ (List.mem_of_getElem? (i := 0) rfl), by decide +kernel, ⟨by decide +kernel, by decide +kernel⟩, wr1 _ (List.mem_of_getElem? (i := 20) rfl), rfl⟩
set_option maxRecDepth 100000 in
theorem moX9_isTextField : am_MO mX9_isTextField := ⟨wr26 _ (List.mem_of_getElem? (i := 7) rfl), by decide +kernel, ⟨by decide +kernel, by decide +kernel⟩, wr1 _ (List.mem_of_getElem? (i := 20) rfl), rfl⟩
set_option maxRecDepth 100000 in
theorem moX9_noteFault : am_MO mX9_noteFault := ⟨wr26 _ (List.mem_of_getElem? (i := 20) rfl), by decide +kernel, ⟨by decide +kernel, by decide +kernel⟩, wr1 _ (List.mem_of_getElem? (i := 20) rfl), rfl⟩
set_option maxRecDepth 100000 in
theorem moX9_punchNumber : am_MO mX9_punchNumber := ⟨wr27 _ (List.mem_of_getElem? (i := 17) rfl), by decide +kernel, ⟨by decide +kernel, by decide +kernel⟩, wr1 _ (List.mem_of_getElem? (i := 20) rfl), rfl⟩
set_option maxRecDepth 100000 in
theorem moX9_punchOn : am_MO mX9_punchOn := ⟨wr27 _ (List.mem_of_getElem? (i := 13) rfl), by decide +kernel, ⟨by decide +kernel, by decide +kernel⟩, wr1 _ (List.mem_of_getElem? (i := 20) rfl), rfl⟩
set_option maxRecDepth 100000 in
theorem moX9_readBetweenWords : am_MO mX9_readBetweenWords := ⟨wr25 _ (List.mem_of_getElem? (i := 17) rfl), by decide +kernel, ⟨by decide +kernel, by decide +kernel⟩, wr1 _ (List.mem_of_getElem? (i := 20) rfl), rfl⟩
set_option maxRecDepth 100000 in
theorem moX9_readInWord : am_MO mX9_readInWord := ⟨wr26 _ (List.mem_of_getElem? (i := 11) rfl), by decide +kernel, ⟨by decide +kernel, by decide +kernel⟩, wr1 _ (List.mem_of_getElem? (i := 20) rfl), rfl⟩
set_option maxRecDepth 100000 in
theorem moX9_readsAsCard : am_MO mX9_readsAsCard := ⟨wr25 _ (List.mem_of_getElem? (i := 12) rfl), by decide +kernel, ⟨by decide +kernel, by decide +kernel⟩, wr1 _ (List.mem_of_getElem? (i := 20) rfl), rfl⟩
set_option maxRecDepth 100000 in
theorem moX9_size : am_MO mX9_size := ⟨wr11 _ (List.mem_of_getElem? (i := 9) rfl), by decide +kernel, ⟨by decide +kernel, by decide +kernel⟩, wr1 _ (List.mem_of_getElem? (i := 20) rfl), rfl⟩
set_option maxRecDepth 100000 in
theorem cq0_15 : am_CP 0 (15, 0, 0, mX0_clear) := ⟨moX0_clear, fun _ => wr4 _ (List.mem_of_getElem? (i := 6) rfl), fun h => absurd h (by decide), fun _ => wr4 _ (List.mem_of_getElem? (i := 7) rfl), fun _ => wr4 _ (List.mem_of_getElem? (i := 8) rfl), fun h => absurd h (by decide), fun h => absurd h (by decide), by decide +kernel⟩
set_option maxRecDepth 100000 in
theorem cq0_26 : am_CP 0 (26, 4, 1, mX11_isColumn) := ⟨moX11_isColumn, fun h => absurd h (by decide), fun _ => List.mem_of_getElem? (i := 12) rfl, fun h => absurd h (by decide), fun h => absurd h (by decide), fun _ => wr11 _ (List.mem_of_getElem? (i := 0) rfl), fun h => absurd h (by decide), by decide +kernel⟩
set_option maxRecDepth 100000 in
theorem cq0_30 : am_CP 0 (30, 0, 1, mX0_copyFrom) := ⟨moX0_copyFrom, fun _ => wr19 _ (List.mem_of_getElem? (i := 18) rfl), fun h => absurd h (by decide), fun _ => wr13 _ (List.mem_of_getElem? (i := 10) rfl), fun _ => wr13 _ (List.mem_of_getElem? (i := 11) rfl), fun h => absurd h (by decide), fun h => absurd h (by decide), by decide +kernel⟩
set_option maxRecDepth 100000 in
theorem cq0_40 : am_CP 0 (40, 0, 2, mX0_show) := ⟨moX0_show, fun _ => wr19 _ (List.mem_of_getElem? (i := 19) rfl), fun h => absurd h (by decide), fun _ => wr16 _ (List.mem_of_getElem? (i := 11) rfl), fun _ => wr16 _ (List.mem_of_getElem? (i := 12) rfl), fun h => absurd h (by decide), fun h => absurd h (by decide), by decide +kernel⟩
set_option maxRecDepth 100000 in
theorem cq1_17 : am_CP 1 (17, 2, 0, mX0_init) := ⟨moX0_init, fun _ => wr4 _ (List.mem_of_getElem? (i := 1) rfl), fun h => absurd h (by decide), fun _ => wr4 _ (List.mem_of_getElem? (i := 2) rfl), fun h => absurd h (by decide), fun h => absurd h (by decide), fun _ => ⟨rfl, rfl⟩, by decide +kernel⟩
set_option maxRecDepth 100000 in
theorem cq1_26 : am_CP 1 (26, 0, 1, mX1_at) := ⟨moX1_at, fun _ => wr13 _ (List.mem_of_getElem? (i := 8) rfl), fun h => absurd h (by decide), fun _ => wr9 _ (List.mem_of_getElem? (i := 21) rfl), fun _ => wr9 _ (List.mem_of_getElem? (i := 22) rfl), fun h => absurd h (by decide), fun h => absurd h (by decide), by decide +kernel⟩
set_option maxRecDepth 100000 in
theorem cq1_30 : am_CP 1 (30, 0, 0, mX0_clear) := ⟨moX0_clear, fun _ => wr27 _ (List.mem_of_getElem? (i := 9) rfl), fun h => absurd h (by decide), fun _ => wr4 _ (List.mem_of_getElem? (i := 7) rfl), fun _ => wr4 _ (List.mem_of_getElem? (i := 8) rfl), fun h => absurd h (by decide), fun h => absurd h (by decide), by decide +kernel⟩
set_option maxRecDepth 100000 in
theorem cq1_33 : am_CP 1 (33, 0, 2, mX1_carry) := ⟨moX1_carry, fun _ => wr15 _ (List.mem_of_getElem? (i := 12) rfl), fun h => absurd h (by decide), fun _ => wr15 _ (List.mem_of_getElem? (i := 13) rfl), fun _ => wr15 _ (List.mem_of_getElem? (i := 14) rfl), fun h => absurd h (by decide), fun h => absurd h (by decide), by decide +kernel⟩
set_option maxRecDepth 100000 in
theorem cq1_37 : am_CP 1 (37, 0, 1, mX1_has) := ⟨moX1_has, fun _ => wr15 _ (List.mem_of_getElem? (i := 11) rfl), fun h => absurd h (by decide), fun _ => wr15 _ (List.mem_of_getElem? (i := 4) rfl), fun _ => wr15 _ (List.mem_of_getElem? (i := 5) rfl), fun h => absurd h (by decide), fun h => absurd h (by decide), by decide +kernel⟩
set_option maxRecDepth 100000 in
theorem cq1_41 : am_CP 1 (41, 0, 2, mX1_put) := ⟨moX1_put, fun _ => wr15 _ (List.mem_of_getElem? (i := 16) rfl), fun h => absurd h (by decide), fun _ => wr15 _ (List.mem_of_getElem? (i := 17) rfl), fun _ => wr15 _ (List.mem_of_getElem? (i := 18) rfl), fun h => absurd h (by decide), fun h => absurd h (by decide), by decide +kernel⟩
set_option maxRecDepth 100000 in
theorem cq1_45 : am_CP 1 (45, 0, 1, mX0_copyFrom) := ⟨moX0_copyFrom, fun _ => wr13 _ (List.mem_of_getElem? (i := 9) rfl), fun h => absurd h (by decide), fun _ => wr13 _ (List.mem_of_getElem? (i := 10) rfl), fun _ => wr13 _ (List.mem_of_getElem? (i := 11) rfl), fun h => absurd h (by decide), fun h => absurd h (by decide), by decide +kernel⟩
set_option maxRecDepth 100000 in
theorem cq2_21 : am_CP 2 (21, 0, 1, mX2_at) := ⟨moX2_at, fun _ => wr12 _ (List.mem_of_getElem? (i := 7) rfl), fun h => absurd h (by decide), fun _ => wr12 _ (List.mem_of_getElem? (i := 8) rfl), fun _ => wr12 _ (List.mem_of_getElem? (i := 9) rfl), fun h => absurd h (by decide), fun h => absurd h (by decide), by decide +kernel⟩
set_option maxRecDepth 100000 in
theorem cq2_25 : am_CP 2 (25, 0, 1, mX8_copyFrom) := ⟨moX8_copyFrom, fun _ => wr12 _ (List.mem_of_getElem? (i := 15) rfl), fun h => absurd h (by decide), fun _ => wr12 _ (List.mem_of_getElem? (i := 16) rfl), fun _ => wr12 _ (List.mem_of_getElem? (i := 17) rfl), fun h => absurd h (by decide), fun h => absurd h (by decide), by decide +kernel⟩
set_option maxRecDepth 100000 in
theorem cq2_32 : am_CP 2 (32, 1, 2, mJ9_floorMod_7cf53) := ⟨moJ9_floorMod_7cf53, fun _ => wr12 _ (List.mem_of_getElem? (i := 11) rfl), fun h => absurd h (by decide), fun h => absurd h (by decide), fun h => absurd h (by decide), fun _ => wr12 _ (List.mem_of_getElem? (i := 12) rfl), fun h => absurd h (by decide), by decide +kernel⟩
set_option maxRecDepth 100000 in
theorem cq2_38 : am_CP 2 (38, 5, 0, mX8_init) := ⟨moX8_init, fun h => absurd h (by decide), fun _ => List.mem_of_getElem? (i := 13) rfl, fun _ => wr2 _ (List.mem_of_getElem? (i := 18) rfl), fun h => absurd h (by decide), fun h => absurd h (by decide), fun _ => ⟨rfl, rfl⟩, by decide +kernel⟩
set_option maxRecDepth 100000 in
theorem cq3_18 : am_CP 3 (18, 4, 1, mX11_isField) := ⟨moX11_isField, fun h => absurd h (by decide), fun _ => List.mem_of_getElem? (i := 11) rfl, fun h => absurd h (by decide), fun h => absurd h (by decide), fun _ => wr10 _ (List.mem_of_getElem? (i := 14) rfl), fun h => absurd h (by decide), by decide +kernel⟩
set_option maxRecDepth 100000 in
theorem cq3_22 : am_CP 3 (22, 0, 1, mX3_firstOf) := ⟨moX3_firstOf, fun _ => wr10 _ (List.mem_of_getElem? (i := 10) rfl), fun h => absurd h (by decide), fun _ => wr10 _ (List.mem_of_getElem? (i := 11) rfl), fun _ => wr10 _ (List.mem_of_getElem? (i := 12) rfl), fun h => absurd h (by decide), fun h => absurd h (by decide), by decide +kernel⟩
set_option maxRecDepth 100000 in
theorem cq3_26 : am_CP 3 (26, 0, 1, mX3_widthOf) := ⟨moX3_widthOf, fun _ => wr10 _ (List.mem_of_getElem? (i := 16) rfl), fun h => absurd h (by decide), fun _ => wr10 _ (List.mem_of_getElem? (i := 17) rfl), fun _ => wr10 _ (List.mem_of_getElem? (i := 18) rfl), fun h => absurd h (by decide), fun h => absurd h (by decide), by decide +kernel⟩
set_option maxRecDepth 100000 in
theorem cq3_29 : am_CP 3 (29, 0, 1, mX0_shows) := ⟨moX0_shows, fun _ => wr10 _ (List.mem_of_getElem? (i := 20) rfl), fun h => absurd h (by decide), fun _ => wr10 _ (List.mem_of_getElem? (i := 21) rfl), fun _ => wr10 _ (List.mem_of_getElem? (i := 22) rfl), fun h => absurd h (by decide), fun h => absurd h (by decide), by decide +kernel⟩
set_option maxRecDepth 100000 in
theorem cq3_35 : am_CP 3 (35, 0, 2, mX3_weighedDigits) := ⟨moX3_weighedDigits, fun _ => wr20 _ (List.mem_of_getElem? (i := 7) rfl), fun h => absurd h (by decide), fun _ => wr20 _ (List.mem_of_getElem? (i := 8) rfl), fun _ => wr20 _ (List.mem_of_getElem? (i := 9) rfl), fun h => absurd h (by decide), fun h => absurd h (by decide), by decide +kernel⟩
set_option maxRecDepth 100000 in
theorem cq3_39 : am_CP 3 (39, 0, 2, mX3_valueOn) := ⟨moX3_valueOn, fun _ => wr10 _ (List.mem_of_getElem? (i := 6) rfl), fun h => absurd h (by decide), fun _ => wr10 _ (List.mem_of_getElem? (i := 7) rfl), fun _ => wr10 _ (List.mem_of_getElem? (i := 8) rfl), fun h => absurd h (by decide), fun h => absurd h (by decide), by decide +kernel⟩
set_option maxRecDepth 100000 in
theorem cq3_44 : am_CP 3 (44, 1, 3, mX10_keyOf) := ⟨moX10_keyOf, fun _ => wr11 _ (List.mem_of_getElem? (i := 2) rfl), fun h => absurd h (by decide), fun h => absurd h (by decide), fun h => absurd h (by decide), fun _ => wr11 _ (List.mem_of_getElem? (i := 3) rfl), fun h => absurd h (by decide), by decide +kernel⟩
set_option maxRecDepth 100000 in
theorem cq4_11 : am_CP 4 (11, 5, 0, mX10_init) := ⟨moX10_init, fun h => absurd h (by decide), fun _ => List.mem_of_getElem? (i := 7) rfl, fun _ => wr6 _ (List.mem_of_getElem? (i := 0) rfl), fun h => absurd h (by decide), fun h => absurd h (by decide), fun _ => ⟨rfl, rfl⟩, by decide +kernel⟩
set_option maxRecDepth 100000 in
theorem cq4_27 : am_CP 4 (27, 0, 0, mX10_clear) := ⟨moX10_clear, fun _ => wr18 _ (List.mem_of_getElem? (i := 12) rfl), fun h => absurd h (by decide), fun _ => wr18 _ (List.mem_of_getElem? (i := 13) rfl), fun _ => wr18 _ (List.mem_of_getElem? (i := 14) rfl), fun h => absurd h (by decide), fun h => absurd h (by decide), by decide +kernel⟩
set_option maxRecDepth 100000 in
theorem cq4_34 : am_CP 4 (34, 0, 0, mX10_key) := ⟨moX10_key, fun _ => wr21 _ (List.mem_of_getElem? (i := 5) rfl), fun h => absurd h (by decide), fun _ => wr20 _ (List.mem_of_getElem? (i := 12) rfl), fun _ => wr20 _ (List.mem_of_getElem? (i := 13) rfl), fun h => absurd h (by decide), fun h => absurd h (by decide), by decide +kernel⟩
set_option maxRecDepth 100000 in
theorem cq4_38 : am_CP 4 (38, 0, 2, mX4_breakBefore) := ⟨moX4_breakBefore, fun _ => wr21 _ (List.mem_of_getElem? (i := 6) rfl), fun h => absurd h (by decide), fun _ => wr21 _ (List.mem_of_getElem? (i := 7) rfl), fun _ => wr21 _ (List.mem_of_getElem? (i := 8) rfl), fun h => absurd h (by decide), fun h => absurd h (by decide), by decide +kernel⟩
set_option maxRecDepth 100000 in
theorem cq4_42 : am_CP 4 (42, 0, 3, mX5_print) := ⟨moX5_print, fun _ => wr22 _ (List.mem_of_getElem? (i := 3) rfl), fun h => absurd h (by decide), fun _ => wr22 _ (List.mem_of_getElem? (i := 4) rfl), fun _ => wr22 _ (List.mem_of_getElem? (i := 5) rfl), fun h => absurd h (by decide), fun h => absurd h (by decide), by decide +kernel⟩
set_option maxRecDepth 100000 in
theorem cq4_48 : am_CP 4 (48, 0, 1, mX10_addCard) := ⟨moX10_addCard, fun _ => wr23 _ (List.mem_of_getElem? (i := 0) rfl), fun h => absurd h (by decide), fun _ => wr23 _ (List.mem_of_getElem? (i := 1) rfl), fun _ => wr23 _ (List.mem_of_getElem? (i := 2) rfl), fun h => absurd h (by decide), fun h => absurd h (by decide), by decide +kernel⟩
set_option maxRecDepth 100000 in
theorem cq4_52 : am_CP 4 (52, 0, 1, mX4_breakWorker) := ⟨moX4_breakWorker, fun _ => wr21 _ (List.mem_of_getElem? (i := 12) rfl), fun h => absurd h (by decide), fun _ => wr21 _ (List.mem_of_getElem? (i := 13) rfl), fun _ => wr21 _ (List.mem_of_getElem? (i := 14) rfl), fun h => absurd h (by decide), fun h => absurd h (by decide), by decide +kernel⟩
set_option maxRecDepth 100000 in
theorem cq4_56 : am_CP 4 (56, 0, 1, mX4_breakGroup) := ⟨moX4_breakGroup, fun _ => wr22 _ (List.mem_of_getElem? (i := 16) rfl), fun h => absurd h (by decide), fun _ => wr22 _ (List.mem_of_getElem? (i := 17) rfl), fun _ => wr22 _ (List.mem_of_getElem? (i := 18) rfl), fun h => absurd h (by decide), fun h => absurd h (by decide), by decide +kernel⟩
set_option maxRecDepth 100000 in
theorem cq4_59 : am_CP 4 (59, 0, 1, mX4_breakDepartment) := ⟨moX4_breakDepartment, fun _ => wr22 _ (List.mem_of_getElem? (i := 20) rfl), fun h => absurd h (by decide), fun _ => wr22 _ (List.mem_of_getElem? (i := 21) rfl), fun _ => wr22 _ (List.mem_of_getElem? (i := 22) rfl), fun h => absurd h (by decide), fun h => absurd h (by decide), by decide +kernel⟩
set_option maxRecDepth 100000 in
theorem cq4_70 : am_CP 4 (70, 0, 1, mX10_overtimeBeyond) := ⟨moX10_overtimeBeyond, fun _ => wr21 _ (List.mem_of_getElem? (i := 18) rfl), fun h => absurd h (by decide), fun _ => wr21 _ (List.mem_of_getElem? (i := 19) rfl), fun _ => wr21 _ (List.mem_of_getElem? (i := 20) rfl), fun h => absurd h (by decide), fun h => absurd h (by decide), by decide +kernel⟩
set_option maxRecDepth 100000 in
theorem cq4_74 : am_CP 4 (74, 0, 1, mX10_addOvertime) := ⟨moX10_addOvertime, fun _ => wr21 _ (List.mem_of_getElem? (i := 23) rfl), fun h => absurd h (by decide), fun _ => wr22 _ (List.mem_of_getElem? (i := 0) rfl), fun _ => wr22 _ (List.mem_of_getElem? (i := 1) rfl), fun h => absurd h (by decide), fun h => absurd h (by decide), by decide +kernel⟩
set_option maxRecDepth 100000 in
theorem cq5_34 : am_CP 5 (34, 0, 1, mX5_hadCard) := ⟨moX5_hadCard, fun _ => wr8 _ (List.mem_of_getElem? (i := 20) rfl), fun h => absurd h (by decide), fun _ => wr8 _ (List.mem_of_getElem? (i := 21) rfl), fun _ => wr8 _ (List.mem_of_getElem? (i := 22) rfl), fun h => absurd h (by decide), fun h => absurd h (by decide), by decide +kernel⟩
set_option maxRecDepth 100000 in
theorem cq5_39 : am_CP 5 (39, 0, 1, mX5_reasonOf) := ⟨moX5_reasonOf, fun _ => wr8 _ (List.mem_of_getElem? (i := 15) rfl), fun h => absurd h (by decide), fun _ => wr8 _ (List.mem_of_getElem? (i := 16) rfl), fun _ => wr8 _ (List.mem_of_getElem? (i := 17) rfl), fun h => absurd h (by decide), fun h => absurd h (by decide), by decide +kernel⟩
set_option maxRecDepth 100000 in
theorem cq5_43 : am_CP 5 (43, 4, 3, mX11_isWithin) := ⟨moX11_isWithin, fun h => absurd h (by decide), fun _ => List.mem_of_getElem? (i := 10) rfl, fun h => absurd h (by decide), fun h => absurd h (by decide), fun _ => wr8 _ (List.mem_of_getElem? (i := 8) rfl), fun h => absurd h (by decide), by decide +kernel⟩
set_option maxRecDepth 100000 in
theorem cq5_47 : am_CP 5 (47, 0, 1, mX5_has) := ⟨moX5_has, fun _ => wr8 _ (List.mem_of_getElem? (i := 4) rfl), fun h => absurd h (by decide), fun _ => wr8 _ (List.mem_of_getElem? (i := 5) rfl), fun _ => wr8 _ (List.mem_of_getElem? (i := 6) rfl), fun h => absurd h (by decide), fun h => absurd h (by decide), by decide +kernel⟩
set_option maxRecDepth 100000 in
theorem cq5_50 : am_CP 5 (50, 0, 2, mX5_number) := ⟨moX5_number, fun _ => wr8 _ (List.mem_of_getElem? (i := 0) rfl), fun h => absurd h (by decide), fun _ => wr8 _ (List.mem_of_getElem? (i := 1) rfl), fun _ => wr8 _ (List.mem_of_getElem? (i := 2) rfl), fun h => absurd h (by decide), fun h => absurd h (by decide), by decide +kernel⟩
set_option maxRecDepth 100000 in
theorem cq5_53 : am_CP 5 (53, 0, 1, mX5_isCard) := ⟨moX5_isCard, fun _ => wr32 _ (List.mem_of_getElem? (i := 8) rfl), fun h => absurd h (by decide), fun _ => wr28 _ (List.mem_of_getElem? (i := 12) rfl), fun _ => wr28 _ (List.mem_of_getElem? (i := 13) rfl), fun h => absurd h (by decide), fun h => absurd h (by decide), by decide +kernel⟩
set_option maxRecDepth 100000 in
theorem cq6_17 : am_CP 6 (17, 5, 0, mX10_init) := ⟨moX10_init, fun h => absurd h (by decide), fun _ => List.mem_of_getElem? (i := 8) rfl, fun _ => wr6 _ (List.mem_of_getElem? (i := 0) rfl), fun h => absurd h (by decide), fun h => absurd h (by decide), fun _ => ⟨rfl, rfl⟩, by decide +kernel⟩
set_option maxRecDepth 100000 in
theorem cq6_34 : am_CP 6 (34, 0, 1, mX5_isCard) := ⟨moX5_isCard, fun _ => wr28 _ (List.mem_of_getElem? (i := 11) rfl), fun h => absurd h (by decide), fun _ => wr28 _ (List.mem_of_getElem? (i := 12) rfl), fun _ => wr28 _ (List.mem_of_getElem? (i := 13) rfl), fun h => absurd h (by decide), fun h => absurd h (by decide), by decide +kernel⟩
set_option maxRecDepth 100000 in
theorem cq6_38 : am_CP 6 (38, 0, 2, mX5_readCard) := ⟨moX5_readCard, fun _ => wr28 _ (List.mem_of_getElem? (i := 15) rfl), fun h => absurd h (by decide), fun _ => wr28 _ (List.mem_of_getElem? (i := 16) rfl), fun _ => wr28 _ (List.mem_of_getElem? (i := 17) rfl), fun h => absurd h (by decide), fun h => absurd h (by decide), by decide +kernel⟩
set_option maxRecDepth 100000 in
theorem cq6_42 : am_CP 6 (42, 0, 0, mX10_key) := ⟨moX10_key, fun _ => wr28 _ (List.mem_of_getElem? (i := 19) rfl), fun h => absurd h (by decide), fun _ => wr20 _ (List.mem_of_getElem? (i := 12) rfl), fun _ => wr20 _ (List.mem_of_getElem? (i := 13) rfl), fun h => absurd h (by decide), fun h => absurd h (by decide), by decide +kernel⟩
set_option maxRecDepth 100000 in
theorem cq6_46 : am_CP 6 (46, 0, 1, mX6_ofKey) := ⟨moX6_ofKey, fun _ => wr28 _ (List.mem_of_getElem? (i := 20) rfl), fun h => absurd h (by decide), fun _ => wr28 _ (List.mem_of_getElem? (i := 21) rfl), fun _ => wr28 _ (List.mem_of_getElem? (i := 22) rfl), fun h => absurd h (by decide), fun h => absurd h (by decide), by decide +kernel⟩
set_option maxRecDepth 100000 in
theorem cq6_50 : am_CP 6 (50, 0, 1, mX10_addCard) := ⟨moX10_addCard, fun _ => wr29 _ (List.mem_of_getElem? (i := 5) rfl), fun h => absurd h (by decide), fun _ => wr23 _ (List.mem_of_getElem? (i := 1) rfl), fun _ => wr23 _ (List.mem_of_getElem? (i := 2) rfl), fun h => absurd h (by decide), fun h => absurd h (by decide), by decide +kernel⟩
set_option maxRecDepth 100000 in
theorem cq6_54 : am_CP 6 (54, 0, 1, mX6_at) := ⟨moX6_at, fun _ => wr29 _ (List.mem_of_getElem? (i := 0) rfl), fun h => absurd h (by decide), fun _ => wr29 _ (List.mem_of_getElem? (i := 1) rfl), fun _ => wr29 _ (List.mem_of_getElem? (i := 2) rfl), fun h => absurd h (by decide), fun h => absurd h (by decide), by decide +kernel⟩
set_option maxRecDepth 100000 in
theorem cq6_61 : am_CP 6 (61, 0, 1, mX10_overtimeBeyond) := ⟨moX10_overtimeBeyond, fun _ => wr29 _ (List.mem_of_getElem? (i := 6) rfl), fun h => absurd h (by decide), fun _ => wr21 _ (List.mem_of_getElem? (i := 19) rfl), fun _ => wr21 _ (List.mem_of_getElem? (i := 20) rfl), fun h => absurd h (by decide), fun h => absurd h (by decide), by decide +kernel⟩
set_option maxRecDepth 100000 in
theorem cq6_65 : am_CP 6 (65, 0, 1, mX10_addOvertime) := ⟨moX10_addOvertime, fun _ => wr29 _ (List.mem_of_getElem? (i := 7) rfl), fun h => absurd h (by decide), fun _ => wr22 _ (List.mem_of_getElem? (i := 0) rfl), fun _ => wr22 _ (List.mem_of_getElem? (i := 1) rfl), fun h => absurd h (by decide), fun h => absurd h (by decide), by decide +kernel⟩
set_option maxRecDepth 100000 in
theorem cq6_69 : am_CP 6 (69, 0, 0, mX10_clear) := ⟨moX10_clear, fun _ => wr29 _ (List.mem_of_getElem? (i := 4) rfl), fun h => absurd h (by decide), fun _ => wr18 _ (List.mem_of_getElem? (i := 13) rfl), fun _ => wr18 _ (List.mem_of_getElem? (i := 14) rfl), fun h => absurd h (by decide), fun h => absurd h (by decide), by decide +kernel⟩
set_option maxRecDepth 100000 in
theorem cq6_75 : am_CP 6 (75, 1, 2, mX6_numberOf) := ⟨moX6_numberOf, fun _ => wr29 _ (List.mem_of_getElem? (i := 13) rfl), fun h => absurd h (by decide), fun h => absurd h (by decide), fun h => absurd h (by decide), fun _ => wr29 _ (List.mem_of_getElem? (i := 14) rfl), fun h => absurd h (by decide), by decide +kernel⟩
set_option maxRecDepth 100000 in
theorem cq6_91 : am_CP 6 (91, 1, 2, mX6_isAhead) := ⟨moX6_isAhead, fun _ => wr31 _ (List.mem_of_getElem? (i := 12) rfl), fun h => absurd h (by decide), fun h => absurd h (by decide), fun h => absurd h (by decide), fun _ => wr31 _ (List.mem_of_getElem? (i := 13) rfl), fun h => absurd h (by decide), by decide +kernel⟩
set_option maxRecDepth 100000 in
theorem cq6_95 : am_CP 6 (95, 0, 2, mX6_put) := ⟨moX6_put, fun _ => wr31 _ (List.mem_of_getElem? (i := 15) rfl), fun h => absurd h (by decide), fun _ => wr31 _ (List.mem_of_getElem? (i := 16) rfl), fun _ => wr31 _ (List.mem_of_getElem? (i := 17) rfl), fun h => absurd h (by decide), fun h => absurd h (by decide), by decide +kernel⟩
set_option maxRecDepth 100000 in
theorem cq7_27 : am_CP 7 (27, 0, 0, mX1_size) := ⟨moX1_size, fun _ => wr9 _ (List.mem_of_getElem? (i := 14) rfl), fun h => absurd h (by decide), fun _ => wr7 _ (List.mem_of_getElem? (i := 11) rfl), fun _ => wr7 _ (List.mem_of_getElem? (i := 12) rfl), fun h => absurd h (by decide), fun h => absurd h (by decide), by decide +kernel⟩
set_option maxRecDepth 100000 in
theorem cq7_43 : am_CP 7 (43, 0, 2, mX7_findStarts) := ⟨moX7_findStarts, fun _ => wr17 _ (List.mem_of_getElem? (i := 5) rfl), fun h => absurd h (by decide), fun _ => wr17 _ (List.mem_of_getElem? (i := 6) rfl), fun _ => wr17 _ (List.mem_of_getElem? (i := 7) rfl), fun h => absurd h (by decide), fun h => absurd h (by decide), by decide +kernel⟩
set_option maxRecDepth 100000 in
theorem cq7_47 : am_CP 7 (47, 0, 1, mX1_at) := ⟨moX1_at, fun _ => wr9 _ (List.mem_of_getElem? (i := 20) rfl), fun h => absurd h (by decide), fun _ => wr9 _ (List.mem_of_getElem? (i := 21) rfl), fun _ => wr9 _ (List.mem_of_getElem? (i := 22) rfl), fun h => absurd h (by decide), fun h => absurd h (by decide), by decide +kernel⟩
set_option maxRecDepth 100000 in
theorem cq7_51 : am_CP 7 (51, 1, 2, mX7_stackOf) := ⟨moX7_stackOf, fun _ => wr17 _ (List.mem_of_getElem? (i := 9) rfl), fun h => absurd h (by decide), fun h => absurd h (by decide), fun h => absurd h (by decide), fun _ => wr17 _ (List.mem_of_getElem? (i := 10) rfl), fun h => absurd h (by decide), by decide +kernel⟩
set_option maxRecDepth 100000 in
theorem cq7_61 : am_CP 7 (61, 0, 1, mX0_shows) := ⟨moX0_shows, fun _ => wr17 _ (List.mem_of_getElem? (i := 12) rfl), fun h => absurd h (by decide), fun _ => wr10 _ (List.mem_of_getElem? (i := 21) rfl), fun _ => wr10 _ (List.mem_of_getElem? (i := 22) rfl), fun h => absurd h (by decide), fun h => absurd h (by decide), by decide +kernel⟩
set_option maxRecDepth 100000 in
theorem cq7_65 : am_CP 7 (65, 4, 3, mX11_isWithin) := ⟨moX11_isWithin, fun h => absurd h (by decide), fun _ => List.mem_of_getElem? (i := 15) rfl, fun h => absurd h (by decide), fun h => absurd h (by decide), fun _ => wr8 _ (List.mem_of_getElem? (i := 8) rfl), fun h => absurd h (by decide), by decide +kernel⟩
set_option maxRecDepth 100000 in
theorem cq7_69 : am_CP 7 (69, 0, 2, mX1_put) := ⟨moX1_put, fun _ => wr17 _ (List.mem_of_getElem? (i := 17) rfl), fun h => absurd h (by decide), fun _ => wr15 _ (List.mem_of_getElem? (i := 17) rfl), fun _ => wr15 _ (List.mem_of_getElem? (i := 18) rfl), fun h => absurd h (by decide), fun h => absurd h (by decide), by decide +kernel⟩
set_option maxRecDepth 100000 in
theorem cq7_75 : am_CP 7 (75, 0, 1, mX3_keyOn) := ⟨moX3_keyOn, fun _ => wr10 _ (List.mem_of_getElem? (i := 0) rfl), fun h => absurd h (by decide), fun _ => wr10 _ (List.mem_of_getElem? (i := 1) rfl), fun _ => wr10 _ (List.mem_of_getElem? (i := 2) rfl), fun h => absurd h (by decide), fun h => absurd h (by decide), by decide +kernel⟩
set_option maxRecDepth 100000 in
theorem cq8_11 : am_CP 8 (11, 5, 0, mX3_init) := ⟨moX3_init, fun h => absurd h (by decide), fun _ => List.mem_of_getElem? (i := 1) rfl, fun _ => wr3 _ (List.mem_of_getElem? (i := 13) rfl), fun h => absurd h (by decide), fun h => absurd h (by decide), fun _ => ⟨rfl, rfl⟩, by decide +kernel⟩
set_option maxRecDepth 100000 in
theorem cq8_20 : am_CP 8 (20, 2, 0, mX1_init) := ⟨moX1_init, fun _ => wr3 _ (List.mem_of_getElem? (i := 18) rfl), fun h => absurd h (by decide), fun _ => wr3 _ (List.mem_of_getElem? (i := 19) rfl), fun h => absurd h (by decide), fun h => absurd h (by decide), fun _ => ⟨rfl, rfl⟩, by decide +kernel⟩
set_option maxRecDepth 100000 in
theorem cq8_27 : am_CP 8 (27, 5, 0, mX5_init) := ⟨moX5_init, fun h => absurd h (by decide), fun _ => List.mem_of_getElem? (i := 2) rfl, fun _ => wr4 _ (List.mem_of_getElem? (i := 13) rfl), fun h => absurd h (by decide), fun h => absurd h (by decide), fun _ => ⟨rfl, rfl⟩, by decide +kernel⟩
set_option maxRecDepth 100000 in
theorem cq8_40 : am_CP 8 (40, 4, 1, mX11_isSetting) := ⟨moX11_isSetting, fun h => absurd h (by decide), fun _ => List.mem_of_getElem? (i := 14) rfl, fun h => absurd h (by decide), fun h => absurd h (by decide), fun _ => wr14 _ (List.mem_of_getElem? (i := 8) rfl), fun h => absurd h (by decide), by decide +kernel⟩
set_option maxRecDepth 100000 in
theorem cq8_44 : am_CP 8 (44, 0, 1, mX3_copyFrom) := ⟨moX3_copyFrom, fun _ => wr12 _ (List.mem_of_getElem? (i := 23) rfl), fun h => absurd h (by decide), fun _ => wr13 _ (List.mem_of_getElem? (i := 0) rfl), fun _ => wr13 _ (List.mem_of_getElem? (i := 1) rfl), fun h => absurd h (by decide), fun h => absurd h (by decide), by decide +kernel⟩
set_option maxRecDepth 100000 in
theorem cq8_48 : am_CP 8 (48, 0, 1, mX1_copyFrom) := ⟨moX1_copyFrom, fun _ => wr13 _ (List.mem_of_getElem? (i := 4) rfl), fun h => absurd h (by decide), fun _ => wr13 _ (List.mem_of_getElem? (i := 5) rfl), fun _ => wr13 _ (List.mem_of_getElem? (i := 6) rfl), fun h => absurd h (by decide), fun h => absurd h (by decide), by decide +kernel⟩
set_option maxRecDepth 100000 in
theorem cq8_51 : am_CP 8 (51, 0, 1, mX5_copyFrom) := ⟨moX5_copyFrom, fun _ => wr13 _ (List.mem_of_getElem? (i := 14) rfl), fun h => absurd h (by decide), fun _ => wr13 _ (List.mem_of_getElem? (i := 15) rfl), fun _ => wr13 _ (List.mem_of_getElem? (i := 16) rfl), fun h => absurd h (by decide), fun h => absurd h (by decide), by decide +kernel⟩
set_option maxRecDepth 100000 in
theorem cq9_35 : am_CP 9 (35, 0, 1, mX9_readBetweenWords) := ⟨moX9_readBetweenWords, fun _ => wr25 _ (List.mem_of_getElem? (i := 14) rfl), fun h => absurd h (by decide), fun _ => wr25 _ (List.mem_of_getElem? (i := 15) rfl), fun _ => wr25 _ (List.mem_of_getElem? (i := 16) rfl), fun h => absurd h (by decide), fun h => absurd h (by decide), by decide +kernel⟩
set_option maxRecDepth 100000 in
theorem cq9_39 : am_CP 9 (39, 0, 2, mX9_readInWord) := ⟨moX9_readInWord, fun _ => wr26 _ (List.mem_of_getElem? (i := 8) rfl), fun h => absurd h (by decide), fun _ => wr26 _ (List.mem_of_getElem? (i := 9) rfl), fun _ => wr26 _ (List.mem_of_getElem? (i := 10) rfl), fun h => absurd h (by decide), fun h => absurd h (by decide), by decide +kernel⟩
set_option maxRecDepth 100000 in
theorem cq9_43 : am_CP 9 (43, 0, 2, mX9_noteFault) := ⟨moX9_noteFault, fun _ => wr26 _ (List.mem_of_getElem? (i := 17) rfl), fun h => absurd h (by decide), fun _ => wr26 _ (List.mem_of_getElem? (i := 18) rfl), fun _ => wr26 _ (List.mem_of_getElem? (i := 19) rfl), fun h => absurd h (by decide), fun h => absurd h (by decide), by decide +kernel⟩
set_option maxRecDepth 100000 in
theorem cq9_47 : am_CP 9 (47, 0, 0, mX9_hasWord) := ⟨moX9_hasWord, fun _ => wr26 _ (List.mem_of_getElem? (i := 21) rfl), fun h => absurd h (by decide), fun _ => wr26 _ (List.mem_of_getElem? (i := 22) rfl), fun _ => wr26 _ (List.mem_of_getElem? (i := 23) rfl), fun h => absurd h (by decide), fun h => absurd h (by decide), by decide +kernel⟩
set_option maxRecDepth 100000 in
theorem cq9_51 : am_CP 9 (51, 0, 0, mX9_endsBehindLetter) := ⟨moX9_endsBehindLetter, fun _ => wr27 _ (List.mem_of_getElem? (i := 1) rfl), fun h => absurd h (by decide), fun _ => wr27 _ (List.mem_of_getElem? (i := 2) rfl), fun _ => wr27 _ (List.mem_of_getElem? (i := 3) rfl), fun h => absurd h (by decide), fun h => absurd h (by decide), by decide +kernel⟩
set_option maxRecDepth 100000 in
theorem cq9_54 : am_CP 9 (54, 0, 1, mX9_at) := ⟨moX9_at, fun _ => wr25 _ (List.mem_of_getElem? (i := 18) rfl), fun h => absurd h (by decide), fun _ => wr25 _ (List.mem_of_getElem? (i := 19) rfl), fun _ => wr25 _ (List.mem_of_getElem? (i := 20) rfl), fun h => absurd h (by decide), fun h => absurd h (by decide), by decide +kernel⟩
set_option maxRecDepth 100000 in
theorem cq9_57 : am_CP 9 (57, 1, 1, mX9_fieldOf) := ⟨moX9_fieldOf, fun _ => wr25 _ (List.mem_of_getElem? (i := 22) rfl), fun h => absurd h (by decide), fun h => absurd h (by decide), fun h => absurd h (by decide), fun _ => wr25 _ (List.mem_of_getElem? (i := 23) rfl), fun h => absurd h (by decide), by decide +kernel⟩
set_option maxRecDepth 100000 in
theorem cq9_60 : am_CP 9 (60, 0, 1, mX9_digitsOf) := ⟨moX9_digitsOf, fun _ => wr26 _ (List.mem_of_getElem? (i := 1) rfl), fun h => absurd h (by decide), fun _ => wr26 _ (List.mem_of_getElem? (i := 2) rfl), fun _ => wr26 _ (List.mem_of_getElem? (i := 3) rfl), fun h => absurd h (by decide), fun h => absurd h (by decide), by decide +kernel⟩
set_option maxRecDepth 100000 in
theorem cq9_63 : am_CP 9 (63, 1, 1, mX9_isTextField) := ⟨moX9_isTextField, fun _ => wr26 _ (List.mem_of_getElem? (i := 5) rfl), fun h => absurd h (by decide), fun h => absurd h (by decide), fun h => absurd h (by decide), fun _ => wr26 _ (List.mem_of_getElem? (i := 6) rfl), fun h => absurd h (by decide), by decide +kernel⟩
set_option maxRecDepth 100000 in
theorem cq9_67 : am_CP 9 (67, 4, 3, mX11_isWithin) := ⟨moX11_isWithin, fun h => absurd h (by decide), fun _ => List.mem_of_getElem? (i := 16) rfl, fun h => absurd h (by decide), fun h => absurd h (by decide), fun _ => wr8 _ (List.mem_of_getElem? (i := 8) rfl), fun h => absurd h (by decide), by decide +kernel⟩
set_option maxRecDepth 100000 in
theorem cq9_71 : am_CP 9 (71, 0, 1, mX3_widthOf) := ⟨moX3_widthOf, fun _ => wr26 _ (List.mem_of_getElem? (i := 12) rfl), fun h => absurd h (by decide), fun _ => wr10 _ (List.mem_of_getElem? (i := 17) rfl), fun _ => wr10 _ (List.mem_of_getElem? (i := 18) rfl), fun h => absurd h (by decide), fun h => absurd h (by decide), by decide +kernel⟩
set_option maxRecDepth 100000 in
theorem cq9_76 : am_CP 9 (76, 0, 1, mX9_countDigit) := ⟨moX9_countDigit, fun _ => wr26 _ (List.mem_of_getElem? (i := 13) rfl), fun h => absurd h (by decide), fun _ => wr26 _ (List.mem_of_getElem? (i := 14) rfl), fun _ => wr26 _ (List.mem_of_getElem? (i := 15) rfl), fun h => absurd h (by decide), fun h => absurd h (by decide), by decide +kernel⟩
set_option maxRecDepth 100000 in
theorem cq9_79 : am_CP 9 (79, 0, 3, mX9_punchNumber) := ⟨moX9_punchNumber, fun _ => wr27 _ (List.mem_of_getElem? (i := 14) rfl), fun h => absurd h (by decide), fun _ => wr27 _ (List.mem_of_getElem? (i := 15) rfl), fun _ => wr27 _ (List.mem_of_getElem? (i := 16) rfl), fun h => absurd h (by decide), fun h => absurd h (by decide), by decide +kernel⟩
set_option maxRecDepth 100000 in
theorem cq9_83 : am_CP 9 (83, 0, 1, mX3_firstOf) := ⟨moX3_firstOf, fun _ => wr27 _ (List.mem_of_getElem? (i := 18) rfl), fun h => absurd h (by decide), fun _ => wr10 _ (List.mem_of_getElem? (i := 11) rfl), fun _ => wr10 _ (List.mem_of_getElem? (i := 12) rfl), fun h => absurd h (by decide), fun h => absurd h (by decide), by decide +kernel⟩
set_option maxRecDepth 100000 in
theorem cq9_86 : am_CP 9 (86, 0, 2, mX0_show) := ⟨moX0_show, fun _ => wr27 _ (List.mem_of_getElem? (i := 19) rfl), fun h => absurd h (by decide), fun _ => wr16 _ (List.mem_of_getElem? (i := 11) rfl), fun _ => wr16 _ (List.mem_of_getElem? (i := 12) rfl), fun h => absurd h (by decide), fun h => absurd h (by decide), by decide +kernel⟩
set_option maxRecDepth 100000 in
theorem cq10_23 : am_CP 10 (23, 1, 3, mX10_keyOf) := ⟨moX10_keyOf, fun _ => wr20 _ (List.mem_of_getElem? (i := 15) rfl), fun h => absurd h (by decide), fun h => absurd h (by decide), fun h => absurd h (by decide), fun _ => wr11 _ (List.mem_of_getElem? (i := 3) rfl), fun h => absurd h (by decide), by decide +kernel⟩
set_option maxRecDepth 100000 in
theorem cq10_42 : am_CP 10 (42, 0, 2, mX3_valueOn) := ⟨moX3_valueOn, fun _ => wr20 _ (List.mem_of_getElem? (i := 1) rfl), fun h => absurd h (by decide), fun _ => wr10 _ (List.mem_of_getElem? (i := 7) rfl), fun _ => wr10 _ (List.mem_of_getElem? (i := 8) rfl), fun h => absurd h (by decide), fun h => absurd h (by decide), by decide +kernel⟩
set_option maxRecDepth 100000 in
theorem cq11_11 : am_CP 11 (11, 5, 0, mX8_init) := ⟨moX8_init, fun h => absurd h (by decide), fun _ => List.mem_of_getElem? (i := 0) rfl, fun _ => wr2 _ (List.mem_of_getElem? (i := 18) rfl), fun h => absurd h (by decide), fun h => absurd h (by decide), fun _ => ⟨rfl, rfl⟩, by decide +kernel⟩
set_option maxRecDepth 100000 in
theorem cq11_18 : am_CP 11 (18, 5, 0, mX2_init) := ⟨moX2_init, fun h => absurd h (by decide), fun _ => List.mem_of_getElem? (i := 3) rfl, fun _ => wr4 _ (List.mem_of_getElem? (i := 18) rfl), fun h => absurd h (by decide), fun h => absurd h (by decide), fun _ => ⟨rfl, rfl⟩, by decide +kernel⟩
set_option maxRecDepth 100000 in
theorem cq11_29 : am_CP 11 (29, 5, 0, mX9_init) := ⟨moX9_init, fun h => absurd h (by decide), fun _ => List.mem_of_getElem? (i := 4) rfl, fun _ => wr4 _ (List.mem_of_getElem? (i := 23) rfl), fun h => absurd h (by decide), fun h => absurd h (by decide), fun _ => ⟨rfl, rfl⟩, by decide +kernel⟩
set_option maxRecDepth 100000 in
theorem cq11_36 : am_CP 11 (36, 5, 0, mX7_init) := ⟨moX7_init, fun h => absurd h (by decide), fun _ => List.mem_of_getElem? (i := 5) rfl, fun _ => wr5 _ (List.mem_of_getElem? (i := 8) rfl), fun h => absurd h (by decide), fun h => absurd h (by decide), fun _ => ⟨rfl, rfl⟩, by decide +kernel⟩
set_option maxRecDepth 100000 in
theorem cq11_43 : am_CP 11 (43, 5, 0, mX4_init) := ⟨moX4_init, fun h => absurd h (by decide), fun _ => List.mem_of_getElem? (i := 6) rfl, fun _ => wr5 _ (List.mem_of_getElem? (i := 16) rfl), fun h => absurd h (by decide), fun h => absurd h (by decide), fun _ => ⟨rfl, rfl⟩, by decide +kernel⟩
set_option maxRecDepth 100000 in
theorem cq11_50 : am_CP 11 (50, 2, 0, mX6_init) := ⟨moX6_init, fun _ => wr6 _ (List.mem_of_getElem? (i := 3) rfl), fun h => absurd h (by decide), fun _ => wr6 _ (List.mem_of_getElem? (i := 4) rfl), fun h => absurd h (by decide), fun h => absurd h (by decide), fun _ => ⟨rfl, rfl⟩, by decide +kernel⟩
set_option maxRecDepth 100000 in
theorem cq11_57 : am_CP 11 (57, 2, 0, mX0_init) := ⟨moX0_init, fun _ => wr6 _ (List.mem_of_getElem? (i := 11) rfl), fun h => absurd h (by decide), fun _ => wr4 _ (List.mem_of_getElem? (i := 2) rfl), fun h => absurd h (by decide), fun h => absurd h (by decide), fun _ => ⟨rfl, rfl⟩, by decide +kernel⟩
set_option maxRecDepth 100000 in
theorem cq11_64 : am_CP 11 (64, 5, 0, mX10_init) := ⟨moX10_init, fun h => absurd h (by decide), fun _ => List.mem_of_getElem? (i := 9) rfl, fun _ => wr6 _ (List.mem_of_getElem? (i := 0) rfl), fun h => absurd h (by decide), fun h => absurd h (by decide), fun _ => ⟨rfl, rfl⟩, by decide +kernel⟩
set_option maxRecDepth 100000 in
theorem cq11_69 : am_CP 11 (69, 1, 1, mX11_isField) := ⟨moX11_isField, fun _ => wr11 _ (List.mem_of_getElem? (i := 20) rfl), fun h => absurd h (by decide), fun h => absurd h (by decide), fun h => absurd h (by decide), fun _ => wr10 _ (List.mem_of_getElem? (i := 14) rfl), fun h => absurd h (by decide), by decide +kernel⟩
set_option maxRecDepth 100000 in
theorem cq11_73 : am_CP 11 (73, 1, 3, mX11_fits) := ⟨moX11_fits, fun _ => wr11 _ (List.mem_of_getElem? (i := 21) rfl), fun h => absurd h (by decide), fun h => absurd h (by decide), fun h => absurd h (by decide), fun _ => wr11 _ (List.mem_of_getElem? (i := 22) rfl), fun h => absurd h (by decide), by decide +kernel⟩
set_option maxRecDepth 100000 in
theorem cq11_78 : am_CP 11 (78, 0, 1, mX2_record) := ⟨moX2_record, fun _ => wr12 _ (List.mem_of_getElem? (i := 2) rfl), fun h => absurd h (by decide), fun _ => wr12 _ (List.mem_of_getElem? (i := 3) rfl), fun _ => wr12 _ (List.mem_of_getElem? (i := 4) rfl), fun h => absurd h (by decide), fun h => absurd h (by decide), by decide +kernel⟩
set_option maxRecDepth 100000 in
theorem cq11_86 : am_CP 11 (86, 0, 1, mX3_firstOf) := ⟨moX3_firstOf, fun _ => wr13 _ (List.mem_of_getElem? (i := 20) rfl), fun h => absurd h (by decide), fun _ => wr10 _ (List.mem_of_getElem? (i := 11) rfl), fun _ => wr10 _ (List.mem_of_getElem? (i := 12) rfl), fun h => absurd h (by decide), fun h => absurd h (by decide), by decide +kernel⟩
set_option maxRecDepth 100000 in
theorem cq11_92 : am_CP 11 (92, 0, 3, mX3_place) := ⟨moX3_place, fun _ => wr13 _ (List.mem_of_getElem? (i := 21) rfl), fun h => absurd h (by decide), fun _ => wr13 _ (List.mem_of_getElem? (i := 22) rfl), fun _ => wr13 _ (List.mem_of_getElem? (i := 23) rfl), fun h => absurd h (by decide), fun h => absurd h (by decide), by decide +kernel⟩
set_option maxRecDepth 100000 in
theorem cq11_96 : am_CP 11 (96, 1, 1, mX11_isSetting) := ⟨moX11_isSetting, fun _ => wr14 _ (List.mem_of_getElem? (i := 7) rfl), fun h => absurd h (by decide), fun h => absurd h (by decide), fun h => absurd h (by decide), fun _ => wr14 _ (List.mem_of_getElem? (i := 8) rfl), fun h => absurd h (by decide), by decide +kernel⟩
set_option maxRecDepth 100000 in
theorem cq11_103 : am_CP 11 (103, 1, 3, mX11_isWithin) := ⟨moX11_isWithin, fun _ => wr12 _ (List.mem_of_getElem? (i := 0) rfl), fun h => absurd h (by decide), fun h => absurd h (by decide), fun h => absurd h (by decide), fun _ => wr8 _ (List.mem_of_getElem? (i := 8) rfl), fun h => absurd h (by decide), by decide +kernel⟩
set_option maxRecDepth 100000 in
theorem cq11_106 : am_CP 11 (106, 0, 1, mX8_settingOf) := ⟨moX8_settingOf, fun _ => wr14 _ (List.mem_of_getElem? (i := 10) rfl), fun h => absurd h (by decide), fun _ => wr14 _ (List.mem_of_getElem? (i := 11) rfl), fun _ => wr14 _ (List.mem_of_getElem? (i := 12) rfl), fun h => absurd h (by decide), fun h => absurd h (by decide), by decide +kernel⟩
set_option maxRecDepth 100000 in
theorem cq11_112 : am_CP 11 (112, 1, 1, mX11_isControl) := ⟨moX11_isControl, fun _ => wr14 _ (List.mem_of_getElem? (i := 20) rfl), fun h => absurd h (by decide), fun h => absurd h (by decide), fun h => absurd h (by decide), fun _ => wr14 _ (List.mem_of_getElem? (i := 21) rfl), fun h => absurd h (by decide), by decide +kernel⟩
set_option maxRecDepth 100000 in
theorem cq11_124 : am_CP 11 (124, 0, 0, mX1_size) := ⟨moX1_size, fun _ => wr7 _ (List.mem_of_getElem? (i := 10) rfl), fun h => absurd h (by decide), fun _ => wr7 _ (List.mem_of_getElem? (i := 11) rfl), fun _ => wr7 _ (List.mem_of_getElem? (i := 12) rfl), fun h => absurd h (by decide), fun h => absurd h (by decide), by decide +kernel⟩
set_option maxRecDepth 100000 in
theorem cq11_130 : am_CP 11 (130, 0, 1, mX9_readsAsCard) := ⟨moX9_readsAsCard, fun _ => wr25 _ (List.mem_of_getElem? (i := 9) rfl), fun h => absurd h (by decide), fun _ => wr25 _ (List.mem_of_getElem? (i := 10) rfl), fun _ => wr25 _ (List.mem_of_getElem? (i := 11) rfl), fun h => absurd h (by decide), fun h => absurd h (by decide), by decide +kernel⟩
set_option maxRecDepth 100000 in
theorem cq11_136 : am_CP 11 (136, 0, 1, mX1_insertBlank) := ⟨moX1_insertBlank, fun _ => wr27 _ (List.mem_of_getElem? (i := 5) rfl), fun h => absurd h (by decide), fun _ => wr27 _ (List.mem_of_getElem? (i := 6) rfl), fun _ => wr27 _ (List.mem_of_getElem? (i := 7) rfl), fun h => absurd h (by decide), fun h => absurd h (by decide), by decide +kernel⟩
set_option maxRecDepth 100000 in
theorem cq11_140 : am_CP 11 (140, 0, 2, mX9_punchOn) := ⟨moX9_punchOn, fun _ => wr27 _ (List.mem_of_getElem? (i := 10) rfl), fun h => absurd h (by decide), fun _ => wr27 _ (List.mem_of_getElem? (i := 11) rfl), fun _ => wr27 _ (List.mem_of_getElem? (i := 12) rfl), fun h => absurd h (by decide), fun h => absurd h (by decide), by decide +kernel⟩
set_option maxRecDepth 100000 in
theorem cq11_144 : am_CP 11 (144, 0, 1, mX3_dueOn) := ⟨moX3_dueOn, fun _ => wr20 _ (List.mem_of_getElem? (i := 3) rfl), fun h => absurd h (by decide), fun _ => wr20 _ (List.mem_of_getElem? (i := 4) rfl), fun _ => wr20 _ (List.mem_of_getElem? (i := 5) rfl), fun h => absurd h (by decide), fun h => absurd h (by decide), by decide +kernel⟩
set_option maxRecDepth 100000 in
theorem cq11_148 : am_CP 11 (148, 0, 2, mX0_show) := ⟨moX0_show, fun _ => wr16 _ (List.mem_of_getElem? (i := 10) rfl), fun h => absurd h (by decide), fun _ => wr16 _ (List.mem_of_getElem? (i := 11) rfl), fun _ => wr16 _ (List.mem_of_getElem? (i := 12) rfl), fun h => absurd h (by decide), fun h => absurd h (by decide), by decide +kernel⟩
set_option maxRecDepth 100000 in
theorem cq11_152 : am_CP 11 (152, 0, 1, mX1_has) := ⟨moX1_has, fun _ => wr15 _ (List.mem_of_getElem? (i := 3) rfl), fun h => absurd h (by decide), fun _ => wr15 _ (List.mem_of_getElem? (i := 4) rfl), fun _ => wr15 _ (List.mem_of_getElem? (i := 5) rfl), fun h => absurd h (by decide), fun h => absurd h (by decide), by decide +kernel⟩
set_option maxRecDepth 100000 in
theorem cq11_155 : am_CP 11 (155, 0, 1, mX1_remove) := ⟨moX1_remove, fun _ => wr15 _ (List.mem_of_getElem? (i := 7) rfl), fun h => absurd h (by decide), fun _ => wr15 _ (List.mem_of_getElem? (i := 8) rfl), fun _ => wr15 _ (List.mem_of_getElem? (i := 9) rfl), fun h => absurd h (by decide), fun h => absurd h (by decide), by decide +kernel⟩
set_option maxRecDepth 100000 in
theorem cq11_159 : am_CP 11 (159, 0, 2, mX1_carry) := ⟨moX1_carry, fun _ => wr16 _ (List.mem_of_getElem? (i := 3) rfl), fun h => absurd h (by decide), fun _ => wr15 _ (List.mem_of_getElem? (i := 13) rfl), fun _ => wr15 _ (List.mem_of_getElem? (i := 14) rfl), fun h => absurd h (by decide), fun h => absurd h (by decide), by decide +kernel⟩
set_option maxRecDepth 100000 in
theorem cq11_167 : am_CP 11 (167, 1, 1, mX11_isColumn) := ⟨moX11_isColumn, fun _ => wr12 _ (List.mem_of_getElem? (i := 1) rfl), fun h => absurd h (by decide), fun h => absurd h (by decide), fun h => absurd h (by decide), fun _ => wr11 _ (List.mem_of_getElem? (i := 0) rfl), fun h => absurd h (by decide), by decide +kernel⟩
set_option maxRecDepth 100000 in
theorem cq11_170 : am_CP 11 (170, 0, 1, mX1_at) := ⟨moX1_at, fun _ => wr16 _ (List.mem_of_getElem? (i := 8) rfl), fun h => absurd h (by decide), fun _ => wr9 _ (List.mem_of_getElem? (i := 21) rfl), fun _ => wr9 _ (List.mem_of_getElem? (i := 22) rfl), fun h => absurd h (by decide), fun h => absurd h (by decide), by decide +kernel⟩
set_option maxRecDepth 100000 in
theorem cq11_173 : am_CP 11 (173, 0, 1, mX0_shows) := ⟨moX0_shows, fun _ => wr16 _ (List.mem_of_getElem? (i := 9) rfl), fun h => absurd h (by decide), fun _ => wr10 _ (List.mem_of_getElem? (i := 21) rfl), fun _ => wr10 _ (List.mem_of_getElem? (i := 22) rfl), fun h => absurd h (by decide), fun h => absurd h (by decide), by decide +kernel⟩
set_option maxRecDepth 100000 in
theorem cq11_183 : am_CP 11 (183, 0, 1, mX7_begin) := ⟨moX7_begin, fun _ => wr9 _ (List.mem_of_getElem? (i := 5) rfl), fun h => absurd h (by decide), fun _ => wr9 _ (List.mem_of_getElem? (i := 6) rfl), fun _ => wr9 _ (List.mem_of_getElem? (i := 7) rfl), fun h => absurd h (by decide), fun h => absurd h (by decide), by decide +kernel⟩
set_option maxRecDepth 100000 in
theorem cq11_187 : am_CP 11 (187, 0, 2, mX7_passBy) := ⟨moX7_passBy, fun _ => wr17 _ (List.mem_of_getElem? (i := 0) rfl), fun h => absurd h (by decide), fun _ => wr17 _ (List.mem_of_getElem? (i := 1) rfl), fun _ => wr17 _ (List.mem_of_getElem? (i := 2) rfl), fun h => absurd h (by decide), fun h => absurd h (by decide), by decide +kernel⟩
set_option maxRecDepth 100000 in
theorem cq11_191 : am_CP 11 (191, 0, 1, mX7_arrange) := ⟨moX7_arrange, fun _ => wr17 _ (List.mem_of_getElem? (i := 13) rfl), fun h => absurd h (by decide), fun _ => wr17 _ (List.mem_of_getElem? (i := 14) rfl), fun _ => wr17 _ (List.mem_of_getElem? (i := 15) rfl), fun h => absurd h (by decide), fun h => absurd h (by decide), by decide +kernel⟩
set_option maxRecDepth 100000 in
theorem cq11_195 : am_CP 11 (195, 0, 1, mX3_widthOf) := ⟨moX3_widthOf, fun _ => wr17 _ (List.mem_of_getElem? (i := 22) rfl), fun h => absurd h (by decide), fun _ => wr10 _ (List.mem_of_getElem? (i := 17) rfl), fun _ => wr10 _ (List.mem_of_getElem? (i := 18) rfl), fun h => absurd h (by decide), fun h => absurd h (by decide), by decide +kernel⟩
set_option maxRecDepth 100000 in
theorem cq11_202 : am_CP 11 (202, 0, 2, mX5_begin) := ⟨moX5_begin, fun _ => wr18 _ (List.mem_of_getElem? (i := 3) rfl), fun h => absurd h (by decide), fun _ => wr18 _ (List.mem_of_getElem? (i := 4) rfl), fun _ => wr18 _ (List.mem_of_getElem? (i := 5) rfl), fun h => absurd h (by decide), fun h => absurd h (by decide), by decide +kernel⟩
set_option maxRecDepth 100000 in
theorem cq11_206 : am_CP 11 (206, 0, 0, mX4_begin) := ⟨moX4_begin, fun _ => wr18 _ (List.mem_of_getElem? (i := 8) rfl), fun h => absurd h (by decide), fun _ => wr18 _ (List.mem_of_getElem? (i := 9) rfl), fun _ => wr18 _ (List.mem_of_getElem? (i := 10) rfl), fun h => absurd h (by decide), fun h => absurd h (by decide), by decide +kernel⟩
set_option maxRecDepth 100000 in
theorem cq11_208 : am_CP 11 (208, 0, 2, mX11_feedDeck) := ⟨moX11_feedDeck, fun _ => wr19 _ (List.mem_of_getElem? (i := 0) rfl), fun h => absurd h (by decide), fun _ => wr19 _ (List.mem_of_getElem? (i := 1) rfl), fun _ => wr19 _ (List.mem_of_getElem? (i := 2) rfl), fun h => absurd h (by decide), fun h => absurd h (by decide), by decide +kernel⟩
set_option maxRecDepth 100000 in
theorem cq11_212 : am_CP 11 (212, 0, 1, mX4_end) := ⟨moX4_end, fun _ => wr23 _ (List.mem_of_getElem? (i := 4) rfl), fun h => absurd h (by decide), fun _ => wr23 _ (List.mem_of_getElem? (i := 5) rfl), fun _ => wr23 _ (List.mem_of_getElem? (i := 6) rfl), fun h => absurd h (by decide), fun h => absurd h (by decide), by decide +kernel⟩
set_option maxRecDepth 100000 in
theorem cq11_216 : am_CP 11 (216, 0, 0, mX2_isEmpty) := ⟨moX2_isEmpty, fun _ => wr23 _ (List.mem_of_getElem? (i := 13) rfl), fun h => absurd h (by decide), fun _ => wr23 _ (List.mem_of_getElem? (i := 14) rfl), fun _ => wr23 _ (List.mem_of_getElem? (i := 15) rfl), fun h => absurd h (by decide), fun h => absurd h (by decide), by decide +kernel⟩
set_option maxRecDepth 100000 in
theorem cq11_220 : am_CP 11 (220, 0, 1, mX2_restoreInto) := ⟨moX2_restoreInto, fun _ => wr23 _ (List.mem_of_getElem? (i := 17) rfl), fun h => absurd h (by decide), fun _ => wr23 _ (List.mem_of_getElem? (i := 18) rfl), fun _ => wr23 _ (List.mem_of_getElem? (i := 19) rfl), fun h => absurd h (by decide), fun h => absurd h (by decide), by decide +kernel⟩
set_option maxRecDepth 100000 in
theorem cq11_223 : am_CP 11 (223, 0, 0, mX2_size) := ⟨moX2_size, fun _ => wr11 _ (List.mem_of_getElem? (i := 11) rfl), fun h => absurd h (by decide), fun _ => wr11 _ (List.mem_of_getElem? (i := 12) rfl), fun _ => wr11 _ (List.mem_of_getElem? (i := 13) rfl), fun h => absurd h (by decide), fun h => absurd h (by decide), by decide +kernel⟩
set_option maxRecDepth 100000 in
theorem cq11_224 : am_CP 11 (224, 0, 0, mX9_size) := ⟨moX9_size, fun _ => wr11 _ (List.mem_of_getElem? (i := 6) rfl), fun h => absurd h (by decide), fun _ => wr11 _ (List.mem_of_getElem? (i := 7) rfl), fun _ => wr11 _ (List.mem_of_getElem? (i := 8) rfl), fun h => absurd h (by decide), fun h => absurd h (by decide), by decide +kernel⟩
set_option maxRecDepth 100000 in
theorem cq11_225 : am_CP 11 (225, 0, 1, mX9_append) := ⟨moX9_append, fun _ => wr25 _ (List.mem_of_getElem? (i := 1) rfl), fun h => absurd h (by decide), fun _ => wr25 _ (List.mem_of_getElem? (i := 2) rfl), fun _ => wr25 _ (List.mem_of_getElem? (i := 3) rfl), fun h => absurd h (by decide), fun h => absurd h (by decide), by decide +kernel⟩
set_option maxRecDepth 100000 in
theorem cq11_228 : am_CP 11 (228, 0, 0, mX9_clear) := ⟨moX9_clear, fun _ => wr24 _ (List.mem_of_getElem? (i := 13) rfl), fun h => absurd h (by decide), fun _ => wr24 _ (List.mem_of_getElem? (i := 14) rfl), fun _ => wr24 _ (List.mem_of_getElem? (i := 15) rfl), fun h => absurd h (by decide), fun h => absurd h (by decide), by decide +kernel⟩
set_option maxRecDepth 100000 in
theorem cq11_240 : am_CP 11 (240, 0, 0, mX5_isEmpty) := ⟨moX5_isEmpty, fun _ => wr7 _ (List.mem_of_getElem? (i := 15) rfl), fun h => absurd h (by decide), fun _ => wr7 _ (List.mem_of_getElem? (i := 16) rfl), fun _ => wr7 _ (List.mem_of_getElem? (i := 17) rfl), fun h => absurd h (by decide), fun h => absurd h (by decide), by decide +kernel⟩
set_option maxRecDepth 100000 in
theorem cq11_241 : am_CP 11 (241, 0, 1, mX5_lastLine) := ⟨moX5_lastLine, fun _ => wr7 _ (List.mem_of_getElem? (i := 20) rfl), fun h => absurd h (by decide), fun _ => wr7 _ (List.mem_of_getElem? (i := 21) rfl), fun _ => wr7 _ (List.mem_of_getElem? (i := 22) rfl), fun h => absurd h (by decide), fun h => absurd h (by decide), by decide +kernel⟩
set_option maxRecDepth 100000 in
theorem cq11_244 : am_CP 11 (244, 0, 0, mX5_refusedCards) := ⟨moX5_refusedCards, fun _ => wr8 _ (List.mem_of_getElem? (i := 10) rfl), fun h => absurd h (by decide), fun _ => wr8 _ (List.mem_of_getElem? (i := 11) rfl), fun _ => wr8 _ (List.mem_of_getElem? (i := 12) rfl), fun h => absurd h (by decide), fun h => absurd h (by decide), by decide +kernel⟩
set_option maxRecDepth 100000 in
theorem cq11_247 : am_CP 11 (247, 0, 0, mX11_isDeckInOrder) := ⟨moX11_isDeckInOrder, fun _ => wr9 _ (List.mem_of_getElem? (i := 0) rfl), fun h => absurd h (by decide), fun _ => wr9 _ (List.mem_of_getElem? (i := 1) rfl), fun _ => wr9 _ (List.mem_of_getElem? (i := 2) rfl), fun h => absurd h (by decide), fun h => absurd h (by decide), by decide +kernel⟩
set_option maxRecDepth 100000 in
theorem cq11_250 : am_CP 11 (250, 0, 2, mX3_valueOn) := ⟨moX3_valueOn, fun _ => wr20 _ (List.mem_of_getElem? (i := 2) rfl), fun h => absurd h (by decide), fun _ => wr10 _ (List.mem_of_getElem? (i := 7) rfl), fun _ => wr10 _ (List.mem_of_getElem? (i := 8) rfl), fun h => absurd h (by decide), fun h => absurd h (by decide), by decide +kernel⟩
set_option maxRecDepth 100000 in
theorem cq11_254 : am_CP 11 (254, 0, 1, mX11_faultOfCard) := ⟨moX11_faultOfCard, fun _ => wr19 _ (List.mem_of_getElem? (i := 9) rfl), fun h => absurd h (by decide), fun _ => wr19 _ (List.mem_of_getElem? (i := 10) rfl), fun _ => wr19 _ (List.mem_of_getElem? (i := 11) rfl), fun h => absurd h (by decide), fun h => absurd h (by decide), by decide +kernel⟩
set_option maxRecDepth 100000 in
theorem cq11_257 : am_CP 11 (257, 0, 1, mX5_has) := ⟨moX5_has, fun _ => wr30 _ (List.mem_of_getElem? (i := 9) rfl), fun h => absurd h (by decide), fun _ => wr8 _ (List.mem_of_getElem? (i := 5) rfl), fun _ => wr8 _ (List.mem_of_getElem? (i := 6) rfl), fun h => absurd h (by decide), fun h => absurd h (by decide), by decide +kernel⟩
set_option maxRecDepth 100000 in
theorem cq11_258 : am_CP 11 (258, 0, 2, mX5_number) := ⟨moX5_number, fun _ => wr30 _ (List.mem_of_getElem? (i := 10) rfl), fun h => absurd h (by decide), fun _ => wr8 _ (List.mem_of_getElem? (i := 1) rfl), fun _ => wr8 _ (List.mem_of_getElem? (i := 2) rfl), fun h => absurd h (by decide), fun h => absurd h (by decide), by decide +kernel⟩
set_option maxRecDepth 100000 in
theorem cq11_262 : am_CP 11 (262, 0, 1, mX5_hadCard) := ⟨moX5_hadCard, fun _ => wr30 _ (List.mem_of_getElem? (i := 15) rfl), fun h => absurd h (by decide), fun _ => wr8 _ (List.mem_of_getElem? (i := 21) rfl), fun _ => wr8 _ (List.mem_of_getElem? (i := 22) rfl), fun h => absurd h (by decide), fun h => absurd h (by decide), by decide +kernel⟩
set_option maxRecDepth 100000 in
theorem cq11_265 : am_CP 11 (265, 0, 1, mX5_reasonOf) := ⟨moX5_reasonOf, fun _ => wr30 _ (List.mem_of_getElem? (i := 16) rfl), fun h => absurd h (by decide), fun _ => wr8 _ (List.mem_of_getElem? (i := 16) rfl), fun _ => wr8 _ (List.mem_of_getElem? (i := 17) rfl), fun h => absurd h (by decide), fun h => absurd h (by decide), by decide +kernel⟩
set_option maxRecDepth 100000 in
theorem cq11_268 : am_CP 11 (268, 0, 1, mX11_acceptedTotal) := ⟨moX11_acceptedTotal, fun _ => wr32 _ (List.mem_of_getElem? (i := 0) rfl), fun h => absurd h (by decide), fun _ => wr32 _ (List.mem_of_getElem? (i := 1) rfl), fun _ => wr32 _ (List.mem_of_getElem? (i := 2) rfl), fun h => absurd h (by decide), fun h => absurd h (by decide), by decide +kernel⟩
set_option maxRecDepth 100000 in
theorem cq11_271 : am_CP 11 (271, 0, 1, mX6_reckon) := ⟨moX6_reckon, fun _ => wr28 _ (List.mem_of_getElem? (i := 4) rfl), fun h => absurd h (by decide), fun _ => wr28 _ (List.mem_of_getElem? (i := 5) rfl), fun _ => wr28 _ (List.mem_of_getElem? (i := 6) rfl), fun h => absurd h (by decide), fun h => absurd h (by decide), by decide +kernel⟩
set_option maxRecDepth 100000 in
theorem cq11_274 : am_CP 11 (274, 0, 2, mX6_sum) := ⟨moX6_sum, fun _ => wr29 _ (List.mem_of_getElem? (i := 8) rfl), fun h => absurd h (by decide), fun _ => wr29 _ (List.mem_of_getElem? (i := 9) rfl), fun _ => wr29 _ (List.mem_of_getElem? (i := 10) rfl), fun h => absurd h (by decide), fun h => absurd h (by decide), by decide +kernel⟩
set_option maxRecDepth 100000 in
theorem cq11_277 : am_CP 11 (277, 0, 0, mX6_size) := ⟨moX6_size, fun _ => wr31 _ (List.mem_of_getElem? (i := 4) rfl), fun h => absurd h (by decide), fun _ => wr31 _ (List.mem_of_getElem? (i := 5) rfl), fun _ => wr31 _ (List.mem_of_getElem? (i := 6) rfl), fun h => absurd h (by decide), fun h => absurd h (by decide), by decide +kernel⟩
set_option maxRecDepth 100000 in
theorem cq11_278 : am_CP 11 (278, 0, 0, mX6_rank) := ⟨moX6_rank, fun _ => wr31 _ (List.mem_of_getElem? (i := 8) rfl), fun h => absurd h (by decide), fun _ => wr31 _ (List.mem_of_getElem? (i := 9) rfl), fun _ => wr31 _ (List.mem_of_getElem? (i := 10) rfl), fun h => absurd h (by decide), fun h => absurd h (by decide), by decide +kernel⟩
set_option maxRecDepth 100000 in
theorem cq11_281 : am_CP 11 (281, 0, 1, mX6_at) := ⟨moX6_at, fun _ => wr31 _ (List.mem_of_getElem? (i := 19) rfl), fun h => absurd h (by decide), fun _ => wr29 _ (List.mem_of_getElem? (i := 1) rfl), fun _ => wr29 _ (List.mem_of_getElem? (i := 2) rfl), fun h => absurd h (by decide), fun h => absurd h (by decide), by decide +kernel⟩
set_option maxRecDepth 100000 in
theorem cq11_298 : am_CP 11 (298, 0, 1, mX11_passByKeyColumns) := ⟨moX11_passByKeyColumns, fun _ => wr32 _ (List.mem_of_getElem? (i := 16) rfl), fun h => absurd h (by decide), fun _ => wr32 _ (List.mem_of_getElem? (i := 17) rfl), fun _ => wr32 _ (List.mem_of_getElem? (i := 18) rfl), fun h => absurd h (by decide), fun h => absurd h (by decide), by decide +kernel⟩
set_option maxRecDepth 100000 in
theorem cq11_301 : am_CP 11 (301, 0, 2, mX7_isInKeyOrder) := ⟨moX7_isInKeyOrder, fun _ => wr9 _ (List.mem_of_getElem? (i := 15) rfl), fun h => absurd h (by decide), fun _ => wr9 _ (List.mem_of_getElem? (i := 16) rfl), fun _ => wr9 _ (List.mem_of_getElem? (i := 17) rfl), fun h => absurd h (by decide), fun h => absurd h (by decide), by decide +kernel⟩
set_option maxRecDepth 100000 in
theorem cq11_305 : am_CP 11 (305, 0, 1, mX8_copyFrom) := ⟨moX8_copyFrom, fun _ => wr24 _ (List.mem_of_getElem? (i := 1) rfl), fun h => absurd h (by decide), fun _ => wr12 _ (List.mem_of_getElem? (i := 16) rfl), fun _ => wr12 _ (List.mem_of_getElem? (i := 17) rfl), fun h => absurd h (by decide), fun h => absurd h (by decide), by decide +kernel⟩
set_option maxRecDepth 100000 in
theorem cq11_310 : am_CP 11 (310, 0, 3, mX11_refusal) := ⟨moX11_refusal, fun _ => wr19 _ (List.mem_of_getElem? (i := 5) rfl), fun h => absurd h (by decide), fun _ => wr19 _ (List.mem_of_getElem? (i := 6) rfl), fun _ => wr19 _ (List.mem_of_getElem? (i := 7) rfl), fun h => absurd h (by decide), fun h => absurd h (by decide), by decide +kernel⟩
set_option maxRecDepth 100000 in
theorem cq11_314 : am_CP 11 (314, 0, 0, mX10_key) := ⟨moX10_key, fun _ => wr20 _ (List.mem_of_getElem? (i := 11) rfl), fun h => absurd h (by decide), fun _ => wr20 _ (List.mem_of_getElem? (i := 12) rfl), fun _ => wr20 _ (List.mem_of_getElem? (i := 13) rfl), fun h => absurd h (by decide), fun h => absurd h (by decide), by decide +kernel⟩
set_option maxRecDepth 100000 in
theorem cq11_318 : am_CP 11 (318, 0, 2, mX11_printJudged) := ⟨moX11_printJudged, fun _ => wr20 _ (List.mem_of_getElem? (i := 16) rfl), fun h => absurd h (by decide), fun _ => wr20 _ (List.mem_of_getElem? (i := 17) rfl), fun _ => wr20 _ (List.mem_of_getElem? (i := 18) rfl), fun h => absurd h (by decide), fun h => absurd h (by decide), by decide +kernel⟩
set_option maxRecDepth 100000 in
theorem cq11_321 : am_CP 11 (321, 0, 2, mX5_judge) := ⟨moX5_judge, fun _ => wr20 _ (List.mem_of_getElem? (i := 20) rfl), fun h => absurd h (by decide), fun _ => wr20 _ (List.mem_of_getElem? (i := 21) rfl), fun _ => wr20 _ (List.mem_of_getElem? (i := 22) rfl), fun h => absurd h (by decide), fun h => absurd h (by decide), by decide +kernel⟩
set_option maxRecDepth 100000 in
theorem cq11_324 : am_CP 11 (324, 0, 3, mX4_accept) := ⟨moX4_accept, fun _ => wr21 _ (List.mem_of_getElem? (i := 0) rfl), fun h => absurd h (by decide), fun _ => wr21 _ (List.mem_of_getElem? (i := 1) rfl), fun _ => wr21 _ (List.mem_of_getElem? (i := 2) rfl), fun h => absurd h (by decide), fun h => absurd h (by decide), by decide +kernel⟩
set_option maxRecDepth 100000 in
theorem cq11_328 : am_CP 11 (328, 0, 1, mX0_readFrom) := ⟨moX0_readFrom, fun _ => wr19 _ (List.mem_of_getElem? (i := 14) rfl), fun h => absurd h (by decide), fun _ => wr19 _ (List.mem_of_getElem? (i := 15) rfl), fun _ => wr19 _ (List.mem_of_getElem? (i := 16) rfl), fun h => absurd h (by decide), fun h => absurd h (by decide), by decide +kernel⟩
set_option maxRecDepth 100000 in
theorem cq11_332 : am_CP 11 (332, 0, 2, mX10_fillFrom) := ⟨moX10_fillFrom, fun _ => wr19 _ (List.mem_of_getElem? (i := 20) rfl), fun h => absurd h (by decide), fun _ => wr19 _ (List.mem_of_getElem? (i := 21) rfl), fun _ => wr19 _ (List.mem_of_getElem? (i := 22) rfl), fun h => absurd h (by decide), fun h => absurd h (by decide), by decide +kernel⟩
set_option maxRecDepth 100000 in
theorem cq11_339 : am_CP 11 (339, 0, 0, mX5_sumOfWorkers) := ⟨moX5_sumOfWorkers, fun _ => wr32 _ (List.mem_of_getElem? (i := 4) rfl), fun h => absurd h (by decide), fun _ => wr32 _ (List.mem_of_getElem? (i := 5) rfl), fun _ => wr32 _ (List.mem_of_getElem? (i := 6) rfl), fun h => absurd h (by decide), fun h => absurd h (by decide), by decide +kernel⟩
set_option maxRecDepth 100000 in
theorem cq14_9 : am_CP 14 (9, 0, 1, mX11_write) := ⟨moX11_write, fun _ => wr24 _ (List.mem_of_getElem? (i := 20) rfl), fun h => absurd h (by decide), fun _ => wr24 _ (List.mem_of_getElem? (i := 21) rfl), fun _ => wr24 _ (List.mem_of_getElem? (i := 22) rfl), fun h => absurd h (by decide), fun h => absurd h (by decide), by decide +kernel⟩
set_option maxRecDepth 100000 in
theorem cq14_15 : am_CP 14 (15, 0, 0, mX11_wipe) := ⟨moX11_wipe, fun _ => wr24 _ (List.mem_of_getElem? (i := 9) rfl), fun h => absurd h (by decide), fun _ => wr24 _ (List.mem_of_getElem? (i := 10) rfl), fun _ => wr24 _ (List.mem_of_getElem? (i := 11) rfl), fun h => absurd h (by decide), fun h => absurd h (by decide), by decide +kernel⟩
set_option maxRecDepth 100000 in
theorem cq14_19 : am_CP 14 (19, 1, 2, mL_low) := ⟨moL_low, fun _ => wr6 _ (List.mem_of_getElem? (i := 17) rfl), fun h => absurd h (by decide), fun h => absurd h (by decide), fun h => absurd h (by decide), fun _ => wr6 _ (List.mem_of_getElem? (i := 18) rfl), fun h => absurd h (by decide), by decide +kernel⟩
set_option maxRecDepth 100000 in
theorem cq14_25 : am_CP 14 (25, 1, 3, mL_number) := ⟨moL_number, fun _ => wr24 _ (List.mem_of_getElem? (i := 17) rfl), fun h => absurd h (by decide), fun h => absurd h (by decide), fun h => absurd h (by decide), fun _ => wr24 _ (List.mem_of_getElem? (i := 18) rfl), fun h => absurd h (by decide), by decide +kernel⟩
set_option maxRecDepth 100000 in
theorem cq14_29 : am_CP 14 (29, 0, 1, mX11_told) := ⟨moX11_told, fun _ => wr7 _ (List.mem_of_getElem? (i := 1) rfl), fun h => absurd h (by decide), fun _ => wr7 _ (List.mem_of_getElem? (i := 2) rfl), fun _ => wr7 _ (List.mem_of_getElem? (i := 3) rfl), fun h => absurd h (by decide), fun h => absurd h (by decide), by decide +kernel⟩
set_option maxRecDepth 100000 in
theorem cq14_32 : am_CP 14 (32, 0, 3, mX11_lay) := ⟨moX11_lay, fun _ => wr11 _ (List.mem_of_getElem? (i := 16) rfl), fun h => absurd h (by decide), fun _ => wr11 _ (List.mem_of_getElem? (i := 17) rfl), fun _ => wr11 _ (List.mem_of_getElem? (i := 18) rfl), fun h => absurd h (by decide), fun h => absurd h (by decide), by decide +kernel⟩
set_option maxRecDepth 100000 in
theorem cq14_36 : am_CP 14 (36, 0, 2, mX11_set) := ⟨moX11_set, fun _ => wr14 _ (List.mem_of_getElem? (i := 1) rfl), fun h => absurd h (by decide), fun _ => wr14 _ (List.mem_of_getElem? (i := 2) rfl), fun _ => wr14 _ (List.mem_of_getElem? (i := 3) rfl), fun h => absurd h (by decide), fun h => absurd h (by decide), by decide +kernel⟩
set_option maxRecDepth 100000 in
theorem cq14_40 : am_CP 14 (40, 0, 2, mX11_control) := ⟨moX11_control, fun _ => wr14 _ (List.mem_of_getElem? (i := 14) rfl), fun h => absurd h (by decide), fun _ => wr14 _ (List.mem_of_getElem? (i := 15) rfl), fun _ => wr14 _ (List.mem_of_getElem? (i := 16) rfl), fun h => absurd h (by decide), fun h => absurd h (by decide), by decide +kernel⟩
set_option maxRecDepth 100000 in
theorem cq14_43 : am_CP 14 (43, 0, 1, mX11_take) := ⟨moX11_take, fun _ => wr14 _ (List.mem_of_getElem? (i := 23) rfl), fun h => absurd h (by decide), fun _ => wr15 _ (List.mem_of_getElem? (i := 0) rfl), fun _ => wr15 _ (List.mem_of_getElem? (i := 1) rfl), fun h => absurd h (by decide), fun h => absurd h (by decide), by decide +kernel⟩
set_option maxRecDepth 100000 in
theorem cq14_46 : am_CP 14 (46, 0, 2, mX11_move) := ⟨moX11_move, fun _ => wr15 _ (List.mem_of_getElem? (i := 20) rfl), fun h => absurd h (by decide), fun _ => wr15 _ (List.mem_of_getElem? (i := 21) rfl), fun _ => wr15 _ (List.mem_of_getElem? (i := 22) rfl), fun h => absurd h (by decide), fun h => absurd h (by decide), by decide +kernel⟩
set_option maxRecDepth 100000 in
theorem cq14_49 : am_CP 14 (49, 0, 3, mX11_repunch) := ⟨moX11_repunch, fun _ => wr16 _ (List.mem_of_getElem? (i := 4) rfl), fun h => absurd h (by decide), fun _ => wr16 _ (List.mem_of_getElem? (i := 5) rfl), fun _ => wr16 _ (List.mem_of_getElem? (i := 6) rfl), fun h => absurd h (by decide), fun h => absurd h (by decide), by decide +kernel⟩
set_option maxRecDepth 100000 in
theorem cq14_52 : am_CP 14 (52, 0, 3, mX11_mark) := ⟨moX11_mark, fun _ => wr16 _ (List.mem_of_getElem? (i := 14) rfl), fun h => absurd h (by decide), fun _ => wr16 _ (List.mem_of_getElem? (i := 15) rfl), fun _ => wr16 _ (List.mem_of_getElem? (i := 16) rfl), fun h => absurd h (by decide), fun h => absurd h (by decide), by decide +kernel⟩
set_option maxRecDepth 100000 in
theorem cq14_55 : am_CP 14 (55, 0, 1, mX11_pass) := ⟨moX11_pass, fun _ => wr16 _ (List.mem_of_getElem? (i := 20) rfl), fun h => absurd h (by decide), fun _ => wr16 _ (List.mem_of_getElem? (i := 21) rfl), fun _ => wr16 _ (List.mem_of_getElem? (i := 22) rfl), fun h => absurd h (by decide), fun h => absurd h (by decide), by decide +kernel⟩
set_option maxRecDepth 100000 in
theorem cq14_58 : am_CP 14 (58, 0, 1, mX11_sort) := ⟨moX11_sort, fun _ => wr17 _ (List.mem_of_getElem? (i := 18) rfl), fun h => absurd h (by decide), fun _ => wr17 _ (List.mem_of_getElem? (i := 19) rfl), fun _ => wr17 _ (List.mem_of_getElem? (i := 20) rfl), fun h => absurd h (by decide), fun h => absurd h (by decide), by decide +kernel⟩
set_option maxRecDepth 100000 in
theorem cq14_61 : am_CP 14 (61, 0, 0, mX11_run) := ⟨moX11_run, fun _ => wr17 _ (List.mem_of_getElem? (i := 23) rfl), fun h => absurd h (by decide), fun _ => wr18 _ (List.mem_of_getElem? (i := 0) rfl), fun _ => wr18 _ (List.mem_of_getElem? (i := 1) rfl), fun h => absurd h (by decide), fun h => absurd h (by decide), by decide +kernel⟩
set_option maxRecDepth 100000 in
theorem cq14_64 : am_CP 14 (64, 0, 0, mX11_undo) := ⟨moX11_undo, fun _ => wr23 _ (List.mem_of_getElem? (i := 8) rfl), fun h => absurd h (by decide), fun _ => wr23 _ (List.mem_of_getElem? (i := 9) rfl), fun _ => wr23 _ (List.mem_of_getElem? (i := 10) rfl), fun h => absurd h (by decide), fun h => absurd h (by decide), by decide +kernel⟩
set_option maxRecDepth 100000 in
theorem cq14_67 : am_CP 14 (67, 0, 1, mX11_keep) := ⟨moX11_keep, fun _ => wr23 _ (List.mem_of_getElem? (i := 21) rfl), fun h => absurd h (by decide), fun _ => wr23 _ (List.mem_of_getElem? (i := 22) rfl), fun _ => wr23 _ (List.mem_of_getElem? (i := 23) rfl), fun h => absurd h (by decide), fun h => absurd h (by decide), by decide +kernel⟩
set_option maxRecDepth 100000 in
theorem cq14_70 : am_CP 14 (70, 0, 1, mX11_back) := ⟨moX11_back, fun _ => wr24 _ (List.mem_of_getElem? (i := 2) rfl), fun h => absurd h (by decide), fun _ => wr24 _ (List.mem_of_getElem? (i := 3) rfl), fun _ => wr24 _ (List.mem_of_getElem? (i := 4) rfl), fun h => absurd h (by decide), fun h => absurd h (by decide), by decide +kernel⟩
set_option maxRecDepth 100000 in
theorem cq14_73 : am_CP 14 (73, 1, 2, mL_write) := ⟨moL_write, fun _ => wr24 _ (List.mem_of_getElem? (i := 6) rfl), fun h => absurd h (by decide), fun h => absurd h (by decide), fun h => absurd h (by decide), fun _ => wr24 _ (List.mem_of_getElem? (i := 7) rfl), fun h => absurd h (by decide), by decide +kernel⟩
set_option maxRecDepth 100000 in
theorem cq14_76 : am_CP 14 (76, 0, 1, mX11_punch) := ⟨moX11_punch, fun _ => wr25 _ (List.mem_of_getElem? (i := 5) rfl), fun h => absurd h (by decide), fun _ => wr25 _ (List.mem_of_getElem? (i := 6) rfl), fun _ => wr25 _ (List.mem_of_getElem? (i := 7) rfl), fun h => absurd h (by decide), fun h => absurd h (by decide), by decide +kernel⟩
set_option maxRecDepth 100000 in
theorem cq14_79 : am_CP 14 (79, 0, 0, mX11_agrees) := ⟨moX11_agrees, fun _ => wr28 _ (List.mem_of_getElem? (i := 0) rfl), fun h => absurd h (by decide), fun _ => wr28 _ (List.mem_of_getElem? (i := 1) rfl), fun _ => wr28 _ (List.mem_of_getElem? (i := 2) rfl), fun h => absurd h (by decide), fun h => absurd h (by decide), by decide +kernel⟩
set_option maxRecDepth 100000 in
theorem cq14_82 : am_CP 14 (82, 0, 0, mX11_mean) := ⟨moX11_mean, fun _ => wr29 _ (List.mem_of_getElem? (i := 20) rfl), fun h => absurd h (by decide), fun _ => wr29 _ (List.mem_of_getElem? (i := 21) rfl), fun _ => wr29 _ (List.mem_of_getElem? (i := 22) rfl), fun h => absurd h (by decide), fun h => absurd h (by decide), by decide +kernel⟩
set_option maxRecDepth 100000 in
theorem cq14_86 : am_CP 14 (86, 0, 2, mX11_again) := ⟨moX11_again, fun _ => wr30 _ (List.mem_of_getElem? (i := 1) rfl), fun h => absurd h (by decide), fun _ => wr30 _ (List.mem_of_getElem? (i := 2) rfl), fun _ => wr30 _ (List.mem_of_getElem? (i := 3) rfl), fun h => absurd h (by decide), fun h => absurd h (by decide), by decide +kernel⟩
set_option maxRecDepth 100000 in
theorem cq14_89 : am_CP 14 (89, 0, 2, mX11_line) := ⟨moX11_line, fun _ => wr30 _ (List.mem_of_getElem? (i := 5) rfl), fun h => absurd h (by decide), fun _ => wr30 _ (List.mem_of_getElem? (i := 6) rfl), fun _ => wr30 _ (List.mem_of_getElem? (i := 7) rfl), fun h => absurd h (by decide), fun h => absurd h (by decide), by decide +kernel⟩
set_option maxRecDepth 100000 in
theorem cq14_92 : am_CP 14 (92, 0, 1, mX11_reason) := ⟨moX11_reason, fun _ => wr30 _ (List.mem_of_getElem? (i := 11) rfl), fun h => absurd h (by decide), fun _ => wr30 _ (List.mem_of_getElem? (i := 12) rfl), fun _ => wr30 _ (List.mem_of_getElem? (i := 13) rfl), fun h => absurd h (by decide), fun h => absurd h (by decide), by decide +kernel⟩
set_option maxRecDepth 100000 in
theorem cq14_96 : am_CP 14 (96, 0, 2, mX11_ranked) := ⟨moX11_ranked, fun _ => wr30 _ (List.mem_of_getElem? (i := 20) rfl), fun h => absurd h (by decide), fun _ => wr30 _ (List.mem_of_getElem? (i := 21) rfl), fun _ => wr30 _ (List.mem_of_getElem? (i := 22) rfl), fun h => absurd h (by decide), fun h => absurd h (by decide), by decide +kernel⟩
set_option maxRecDepth 100000 in
theorem cq14_99 : am_CP 14 (99, 0, 1, mX11_differs) := ⟨moX11_differs, fun _ => wr31 _ (List.mem_of_getElem? (i := 20) rfl), fun h => absurd h (by decide), fun _ => wr31 _ (List.mem_of_getElem? (i := 21) rfl), fun _ => wr31 _ (List.mem_of_getElem? (i := 22) rfl), fun h => absurd h (by decide), fun h => absurd h (by decide), by decide +kernel⟩
set_option maxRecDepth 100000 in
theorem cq14_102 : am_CP 14 (102, 0, 0, mX11_passes) := ⟨moX11_passes, fun _ => wr32 _ (List.mem_of_getElem? (i := 12) rfl), fun h => absurd h (by decide), fun _ => wr32 _ (List.mem_of_getElem? (i := 13) rfl), fun _ => wr32 _ (List.mem_of_getElem? (i := 14) rfl), fun h => absurd h (by decide), fun h => absurd h (by decide), by decide +kernel⟩
set_option maxRecDepth 100000 in
theorem cq14_105 : am_CP 14 (105, 0, 1, mX11_accepts) := ⟨moX11_accepts, fun _ => wr32 _ (List.mem_of_getElem? (i := 23) rfl), fun h => absurd h (by decide), fun _ => wr33 _ (List.mem_of_getElem? (i := 0) rfl), fun _ => wr33 _ (List.mem_of_getElem? (i := 1) rfl), fun h => absurd h (by decide), fun h => absurd h (by decide), by decide +kernel⟩
set_option maxRecDepth 100000 in
theorem cq14_108 : am_CP 14 (108, 0, 2, mX11_card) := ⟨moX11_card, fun _ => wr33 _ (List.mem_of_getElem? (i := 3) rfl), fun h => absurd h (by decide), fun _ => wr33 _ (List.mem_of_getElem? (i := 4) rfl), fun _ => wr33 _ (List.mem_of_getElem? (i := 5) rfl), fun h => absurd h (by decide), fun h => absurd h (by decide), by decide +kernel⟩
set_option maxRecDepth 100000 in
theorem cq14_111 : am_CP 14 (111, 0, 1, mX11_setting) := ⟨moX11_setting, fun _ => wr33 _ (List.mem_of_getElem? (i := 7) rfl), fun h => absurd h (by decide), fun _ => wr33 _ (List.mem_of_getElem? (i := 8) rfl), fun _ => wr33 _ (List.mem_of_getElem? (i := 9) rfl), fun h => absurd h (by decide), fun h => absurd h (by decide), by decide +kernel⟩
set_option maxRecDepth 100000 in
theorem cq14_114 : am_CP 14 (114, 2, 0, mX11_init) := ⟨moX11_init, fun _ => wr1 _ (List.mem_of_getElem? (i := 3) rfl), fun h => absurd h (by decide), fun _ => wr1 _ (List.mem_of_getElem? (i := 4) rfl), fun h => absurd h (by decide), fun h => absurd h (by decide), fun _ => ⟨rfl, rfl⟩, by decide +kernel⟩
set_option maxRecDepth 100000 in
theorem cq14_115 : am_CP 14 (115, 1, 2, mL_cell) := ⟨moL_cell, fun _ => wr6 _ (List.mem_of_getElem? (i := 12) rfl), fun h => absurd h (by decide), fun h => absurd h (by decide), fun h => absurd h (by decide), fun _ => wr6 _ (List.mem_of_getElem? (i := 13) rfl), fun h => absurd h (by decide), by decide +kernel⟩
set_option maxRecDepth 100000 in
theorem cq14_119 : am_CP 14 (119, 1, 3, mL_change) := ⟨moL_change, fun _ => wr6 _ (List.mem_of_getElem? (i := 21) rfl), fun h => absurd h (by decide), fun h => absurd h (by decide), fun h => absurd h (by decide), fun _ => wr6 _ (List.mem_of_getElem? (i := 22) rfl), fun h => absurd h (by decide), by decide +kernel⟩
set_option maxRecDepth 100000 in
theorem cq14_122 : am_CP 14 (122, 1, 1, mL_isReport) := ⟨moL_isReport, fun _ => wr27 _ (List.mem_of_getElem? (i := 20) rfl), fun h => absurd h (by decide), fun h => absurd h (by decide), fun h => absurd h (by decide), fun _ => wr27 _ (List.mem_of_getElem? (i := 21) rfl), fun h => absurd h (by decide), by decide +kernel⟩
set_option maxRecDepth 100000 in
theorem cq14_126 : am_CP 14 (126, 1, 1, mL_isAgain) := ⟨moL_isAgain, fun _ => wr30 _ (List.mem_of_getElem? (i := 17) rfl), fun h => absurd h (by decide), fun h => absurd h (by decide), fun h => absurd h (by decide), fun _ => wr30 _ (List.mem_of_getElem? (i := 18) rfl), fun h => absurd h (by decide), by decide +kernel⟩
set_option maxRecDepth 100000 in
theorem cq14_129 : am_CP 14 (129, 1, 1, mL_isSorted) := ⟨moL_isSorted, fun _ => wr32 _ (List.mem_of_getElem? (i := 9) rfl), fun h => absurd h (by decide), fun h => absurd h (by decide), fun h => absurd h (by decide), fun _ => wr32 _ (List.mem_of_getElem? (i := 10) rfl), fun h => absurd h (by decide), by decide +kernel⟩
set_option maxRecDepth 100000 in
theorem cq14_132 : am_CP 14 (132, 1, 2, mL_isAccepted) := ⟨moL_isAccepted, fun _ => wr32 _ (List.mem_of_getElem? (i := 20) rfl), fun h => absurd h (by decide), fun h => absurd h (by decide), fun h => absurd h (by decide), fun _ => wr32 _ (List.mem_of_getElem? (i := 21) rfl), fun h => absurd h (by decide), by decide +kernel⟩
set_option maxRecDepth 100000 in
theorem cq14_136 : am_CP 14 (136, 1, 2, mL_areAlike) := ⟨moL_areAlike, fun _ => wr33 _ (List.mem_of_getElem? (i := 11) rfl), fun h => absurd h (by decide), fun h => absurd h (by decide), fun h => absurd h (by decide), fun _ => wr33 _ (List.mem_of_getElem? (i := 12) rfl), fun h => absurd h (by decide), by decide +kernel⟩
set_option maxRecDepth 100000 in
theorem am_callP0 : ∀ e ∈ (am_callL 0), am_CP 0 e := List.forall_mem_cons.mpr ⟨cq0_15, List.forall_mem_cons.mpr ⟨cq0_26, List.forall_mem_cons.mpr ⟨cq0_30, List.forall_mem_cons.mpr ⟨cq0_40, fun _ h => absurd h List.not_mem_nil⟩⟩⟩⟩
set_option maxRecDepth 100000 in
theorem am_callP1 : ∀ e ∈ (am_callL 1), am_CP 1 e := List.forall_mem_cons.mpr ⟨cq1_17, List.forall_mem_cons.mpr ⟨cq1_26, List.forall_mem_cons.mpr ⟨cq1_30, List.forall_mem_cons.mpr ⟨cq1_33, List.forall_mem_cons.mpr ⟨cq1_37, List.forall_mem_cons.mpr ⟨cq1_41, List.forall_mem_cons.mpr ⟨cq1_45, fun _ h => absurd h List.not_mem_nil⟩⟩⟩⟩⟩⟩⟩
set_option maxRecDepth 100000 in
theorem am_callP2 : ∀ e ∈ (am_callL 2), am_CP 2 e := List.forall_mem_cons.mpr ⟨cq2_21, List.forall_mem_cons.mpr ⟨cq2_25, List.forall_mem_cons.mpr ⟨cq2_32, List.forall_mem_cons.mpr ⟨cq2_38, fun _ h => absurd h List.not_mem_nil⟩⟩⟩⟩
set_option maxRecDepth 100000 in
theorem am_callP3 : ∀ e ∈ (am_callL 3), am_CP 3 e := List.forall_mem_cons.mpr ⟨cq3_18, List.forall_mem_cons.mpr ⟨cq3_22, List.forall_mem_cons.mpr ⟨cq3_26, List.forall_mem_cons.mpr ⟨cq3_29, List.forall_mem_cons.mpr ⟨cq3_35, List.forall_mem_cons.mpr ⟨cq3_39, List.forall_mem_cons.mpr ⟨cq3_44, fun _ h => absurd h List.not_mem_nil⟩⟩⟩⟩⟩⟩⟩
set_option maxRecDepth 100000 in
theorem am_callP4 : ∀ e ∈ (am_callL 4), am_CP 4 e := List.forall_mem_cons.mpr ⟨cq4_11, List.forall_mem_cons.mpr ⟨cq4_27, List.forall_mem_cons.mpr ⟨cq4_34, List.forall_mem_cons.mpr ⟨cq4_38, List.forall_mem_cons.mpr ⟨cq4_42, List.forall_mem_cons.mpr ⟨cq4_48, List.forall_mem_cons.mpr ⟨cq4_52, List.forall_mem_cons.mpr ⟨cq4_56, List.forall_mem_cons.mpr ⟨cq4_59, List.forall_mem_cons.mpr ⟨cq4_70, List.forall_mem_cons.mpr ⟨cq4_74, fun _ h => absurd h List.not_mem_nil⟩⟩⟩⟩⟩⟩⟩⟩⟩⟩⟩
set_option maxRecDepth 100000 in
theorem am_callP5 : ∀ e ∈ (am_callL 5), am_CP 5 e := List.forall_mem_cons.mpr ⟨cq5_34, List.forall_mem_cons.mpr ⟨cq5_39, List.forall_mem_cons.mpr ⟨cq5_43, List.forall_mem_cons.mpr ⟨cq5_47, List.forall_mem_cons.mpr ⟨cq5_50, List.forall_mem_cons.mpr ⟨cq5_53, fun _ h => absurd h List.not_mem_nil⟩⟩⟩⟩⟩⟩
set_option maxRecDepth 100000 in
theorem am_callP6 : ∀ e ∈ (am_callL 6), am_CP 6 e := List.forall_mem_cons.mpr ⟨cq6_17, List.forall_mem_cons.mpr ⟨cq6_34, List.forall_mem_cons.mpr ⟨cq6_38, List.forall_mem_cons.mpr ⟨cq6_42, List.forall_mem_cons.mpr ⟨cq6_46, List.forall_mem_cons.mpr ⟨cq6_50, List.forall_mem_cons.mpr ⟨cq6_54, List.forall_mem_cons.mpr ⟨cq6_61, List.forall_mem_cons.mpr ⟨cq6_65, List.forall_mem_cons.mpr ⟨cq6_69, List.forall_mem_cons.mpr ⟨cq6_75, List.forall_mem_cons.mpr ⟨cq6_91, List.forall_mem_cons.mpr ⟨cq6_95, fun _ h => absurd h List.not_mem_nil⟩⟩⟩⟩⟩⟩⟩⟩⟩⟩⟩⟩⟩
set_option maxRecDepth 100000 in
theorem am_callP7 : ∀ e ∈ (am_callL 7), am_CP 7 e := List.forall_mem_cons.mpr ⟨cq7_27, List.forall_mem_cons.mpr ⟨cq7_43, List.forall_mem_cons.mpr ⟨cq7_47, List.forall_mem_cons.mpr ⟨cq7_51, List.forall_mem_cons.mpr ⟨cq7_61, List.forall_mem_cons.mpr ⟨cq7_65, List.forall_mem_cons.mpr ⟨cq7_69, List.forall_mem_cons.mpr ⟨cq7_75, fun _ h => absurd h List.not_mem_nil⟩⟩⟩⟩⟩⟩⟩⟩
set_option maxRecDepth 100000 in
theorem am_callP8 : ∀ e ∈ (am_callL 8), am_CP 8 e := List.forall_mem_cons.mpr ⟨cq8_11, List.forall_mem_cons.mpr ⟨cq8_20, List.forall_mem_cons.mpr ⟨cq8_27, List.forall_mem_cons.mpr ⟨cq8_40, List.forall_mem_cons.mpr ⟨cq8_44, List.forall_mem_cons.mpr ⟨cq8_48, List.forall_mem_cons.mpr ⟨cq8_51, fun _ h => absurd h List.not_mem_nil⟩⟩⟩⟩⟩⟩⟩
set_option maxRecDepth 100000 in
theorem am_callP9 : ∀ e ∈ (am_callL 9), am_CP 9 e := List.forall_mem_cons.mpr ⟨cq9_35, List.forall_mem_cons.mpr ⟨cq9_39, List.forall_mem_cons.mpr ⟨cq9_43, List.forall_mem_cons.mpr ⟨cq9_47, List.forall_mem_cons.mpr ⟨cq9_51, List.forall_mem_cons.mpr ⟨cq9_54, List.forall_mem_cons.mpr ⟨cq9_57, List.forall_mem_cons.mpr ⟨cq9_60, List.forall_mem_cons.mpr ⟨cq9_63, List.forall_mem_cons.mpr ⟨cq9_67, List.forall_mem_cons.mpr ⟨cq9_71, List.forall_mem_cons.mpr ⟨cq9_76, List.forall_mem_cons.mpr ⟨cq9_79, List.forall_mem_cons.mpr ⟨cq9_83, List.forall_mem_cons.mpr ⟨cq9_86, fun _ h => absurd h List.not_mem_nil⟩⟩⟩⟩⟩⟩⟩⟩⟩⟩⟩⟩⟩⟩⟩
set_option maxRecDepth 100000 in
theorem am_callP10 : ∀ e ∈ (am_callL 10), am_CP 10 e := List.forall_mem_cons.mpr ⟨cq10_23, List.forall_mem_cons.mpr ⟨cq10_42, fun _ h => absurd h List.not_mem_nil⟩⟩
set_option maxRecDepth 100000 in
theorem am_callP11 : ∀ e ∈ (am_callL 11), am_CP 11 e := List.forall_mem_cons.mpr ⟨cq11_11, List.forall_mem_cons.mpr ⟨cq11_18, List.forall_mem_cons.mpr ⟨cq11_29, List.forall_mem_cons.mpr ⟨cq11_36, List.forall_mem_cons.mpr ⟨cq11_43, List.forall_mem_cons.mpr ⟨cq11_50, List.forall_mem_cons.mpr ⟨cq11_57, List.forall_mem_cons.mpr ⟨cq11_64, List.forall_mem_cons.mpr ⟨cq11_69, List.forall_mem_cons.mpr ⟨cq11_73, List.forall_mem_cons.mpr ⟨cq11_78, List.forall_mem_cons.mpr ⟨cq11_86, List.forall_mem_cons.mpr ⟨cq11_92, List.forall_mem_cons.mpr ⟨cq11_96, List.forall_mem_cons.mpr ⟨cq11_103, List.forall_mem_cons.mpr ⟨cq11_106, List.forall_mem_cons.mpr ⟨cq11_112, List.forall_mem_cons.mpr ⟨cq11_124, List.forall_mem_cons.mpr ⟨cq11_130, List.forall_mem_cons.mpr ⟨cq11_136, List.forall_mem_cons.mpr ⟨cq11_140, List.forall_mem_cons.mpr ⟨cq11_144, List.forall_mem_cons.mpr ⟨cq11_148, List.forall_mem_cons.mpr ⟨cq11_152, List.forall_mem_cons.mpr ⟨cq11_155, List.forall_mem_cons.mpr ⟨cq11_159, List.forall_mem_cons.mpr ⟨cq11_167, List.forall_mem_cons.mpr ⟨cq11_170, List.forall_mem_cons.mpr ⟨cq11_173, List.forall_mem_cons.mpr ⟨cq11_183, List.forall_mem_cons.mpr ⟨cq11_187, List.forall_mem_cons.mpr ⟨cq11_191, List.forall_mem_cons.mpr ⟨cq11_195, List.forall_mem_cons.mpr ⟨cq11_202, List.forall_mem_cons.mpr ⟨cq11_206, List.forall_mem_cons.mpr ⟨cq11_208, List.forall_mem_cons.mpr ⟨cq11_212, List.forall_mem_cons.mpr ⟨cq11_216, List.forall_mem_cons.mpr ⟨cq11_220, List.forall_mem_cons.mpr ⟨cq11_223, List.forall_mem_cons.mpr ⟨cq11_224, List.forall_mem_cons.mpr ⟨cq11_225, List.forall_mem_cons.mpr ⟨cq11_228, List.forall_mem_cons.mpr ⟨cq11_240, List.forall_mem_cons.mpr ⟨cq11_241, List.forall_mem_cons.mpr ⟨cq11_244, List.forall_mem_cons.mpr ⟨cq11_247, List.forall_mem_cons.mpr ⟨cq11_250, List.forall_mem_cons.mpr ⟨cq11_254, List.forall_mem_cons.mpr ⟨cq11_257, List.forall_mem_cons.mpr ⟨cq11_258, List.forall_mem_cons.mpr ⟨cq11_262, List.forall_mem_cons.mpr ⟨cq11_265, List.forall_mem_cons.mpr ⟨cq11_268, List.forall_mem_cons.mpr ⟨cq11_271, List.forall_mem_cons.mpr ⟨cq11_274, List.forall_mem_cons.mpr ⟨cq11_277, List.forall_mem_cons.mpr ⟨cq11_278, List.forall_mem_cons.mpr ⟨cq11_281, List.forall_mem_cons.mpr ⟨cq11_298, List.forall_mem_cons.mpr ⟨cq11_301, List.forall_mem_cons.mpr ⟨cq11_305, List.forall_mem_cons.mpr ⟨cq11_310, List.forall_mem_cons.mpr ⟨cq11_314, List.forall_mem_cons.mpr ⟨cq11_318, List.forall_mem_cons.mpr ⟨cq11_321, List.forall_mem_cons.mpr ⟨cq11_324, List.forall_mem_cons.mpr ⟨cq11_328, List.forall_mem_cons.mpr ⟨cq11_332, List.forall_mem_cons.mpr ⟨cq11_339, fun _ h => absurd h List.not_mem_nil⟩⟩⟩⟩⟩⟩⟩⟩⟩⟩⟩⟩⟩⟩⟩⟩⟩⟩⟩⟩⟩⟩⟩⟩⟩⟩⟩⟩⟩⟩⟩⟩⟩⟩⟩⟩⟩⟩⟩⟩⟩⟩⟩⟩⟩⟩⟩⟩⟩⟩⟩⟩⟩⟩⟩⟩⟩⟩⟩⟩⟩⟩⟩⟩⟩⟩⟩⟩⟩⟩
set_option maxRecDepth 100000 in
theorem am_callP14 : ∀ e ∈ (am_callL 14), am_CP 14 e := List.forall_mem_cons.mpr ⟨cq14_9, List.forall_mem_cons.mpr ⟨cq14_15, List.forall_mem_cons.mpr ⟨cq14_19, List.forall_mem_cons.mpr ⟨cq14_25, List.forall_mem_cons.mpr ⟨cq14_29, List.forall_mem_cons.mpr ⟨cq14_32, List.forall_mem_cons.mpr ⟨cq14_36, List.forall_mem_cons.mpr ⟨cq14_40, List.forall_mem_cons.mpr ⟨cq14_43, List.forall_mem_cons.mpr ⟨cq14_46, List.forall_mem_cons.mpr ⟨cq14_49, List.forall_mem_cons.mpr ⟨cq14_52, List.forall_mem_cons.mpr ⟨cq14_55, List.forall_mem_cons.mpr ⟨cq14_58, List.forall_mem_cons.mpr ⟨cq14_61, List.forall_mem_cons.mpr ⟨cq14_64, List.forall_mem_cons.mpr ⟨cq14_67, List.forall_mem_cons.mpr ⟨cq14_70, List.forall_mem_cons.mpr ⟨cq14_73, List.forall_mem_cons.mpr ⟨cq14_76, List.forall_mem_cons.mpr ⟨cq14_79, List.forall_mem_cons.mpr ⟨cq14_82, List.forall_mem_cons.mpr ⟨cq14_86, List.forall_mem_cons.mpr ⟨cq14_89, List.forall_mem_cons.mpr ⟨cq14_92, List.forall_mem_cons.mpr ⟨cq14_96, List.forall_mem_cons.mpr ⟨cq14_99, List.forall_mem_cons.mpr ⟨cq14_102, List.forall_mem_cons.mpr ⟨cq14_105, List.forall_mem_cons.mpr ⟨cq14_108, List.forall_mem_cons.mpr ⟨cq14_111, List.forall_mem_cons.mpr ⟨cq14_114, List.forall_mem_cons.mpr ⟨cq14_115, List.forall_mem_cons.mpr ⟨cq14_119, List.forall_mem_cons.mpr ⟨cq14_122, List.forall_mem_cons.mpr ⟨cq14_126, List.forall_mem_cons.mpr ⟨cq14_129, List.forall_mem_cons.mpr ⟨cq14_132, List.forall_mem_cons.mpr ⟨cq14_136, fun _ h => absurd h List.not_mem_nil⟩⟩⟩⟩⟩⟩⟩⟩⟩⟩⟩⟩⟩⟩⟩⟩⟩⟩⟩⟩⟩⟩⟩⟩⟩⟩⟩⟩⟩⟩⟩⟩⟩⟩⟩⟩⟩⟩⟩
theorem am_callP (c : Nat) : ∀ e ∈ am_callL c, am_CP c e := by
  match c with
  | 0 => exact am_callP0
  | 1 => exact am_callP1
  | 2 => exact am_callP2
  | 3 => exact am_callP3
  | 4 => exact am_callP4
  | 5 => exact am_callP5
  | 6 => exact am_callP6
  | 7 => exact am_callP7
  | 8 => exact am_callP8
  | 9 => exact am_callP9
  | 10 => exact am_callP10
  | 11 => exact am_callP11
  | 12 => exact fun _ h => absurd h List.not_mem_nil
  | 13 => exact fun _ h => absurd h List.not_mem_nil
  | 14 => exact am_callP14
  | _ + 15 => exact fun _ h => absurd h List.not_mem_nil
def am_CL (ci : Nat) (r : vw_C) : Prop := (∀ w ∈ u_ws r.1 r.2.1 r.2.2, w ∈ wsL_law) ∧ (∀ k, k < r.2.2 → parseFieldDescriptor (r.2.1 k).2.2.1 = some (am_tys ci k)) ∧ (∀ a, a < r.2.2 → ∀ b, b < r.2.2 → a ≠ b → (r.2.1 a).2.1 ≠ (r.2.1 b).2.1) ∧ r.1 = am_cn ci
theorem am_clP (ci : Nat) (r : vw_C) (h : vwCl[ci]? = some r) : am_CL ci r := by
  match ci, h with
  | 0, h => cases h; exact ⟨inlX0, tyX0_ok, nmX0, rfl⟩
  | 1, h => cases h; exact ⟨inlX1, tyX1_ok, nmX1, rfl⟩
  | 2, h => cases h; exact ⟨inlX2, tyX2_ok, nmX2, rfl⟩
  | 3, h => cases h; exact ⟨inlX3, tyX3_ok, nmX3, rfl⟩
  | 4, h => cases h; exact ⟨inlX4, tyX4_ok, nmX4, rfl⟩
  | 5, h => cases h; exact ⟨inlX5, tyX5_ok, nmX5, rfl⟩
  | 6, h => cases h; exact ⟨inlX6, tyX6_ok, nmX6, rfl⟩
  | 7, h => cases h; exact ⟨inlX7, tyX7_ok, nmX7, rfl⟩
  | 8, h => cases h; exact ⟨inlX8, tyX8_ok, nmX8, rfl⟩
  | 9, h => cases h; exact ⟨inlX9, tyX9_ok, nmX9, rfl⟩
  | 10, h => cases h; exact ⟨inlX10, tyX10_ok, nmX10, rfl⟩
  | 11, h => cases h; exact ⟨inlX11, tyX11_ok, nmX11, rfl⟩
  | n + 12, h => simp [vwCl] at h
set_option maxRecDepth 100000 in
theorem am_good : ∀ w ∈ wsL_law, (w.onTables && w.keeps) = true ∨ ∃ ty, w = .arrayClass ty := fun w h => good_of_word (List.all_eq_true.mp (show wsL_law.all goodWord = true by decide +kernel) w h)

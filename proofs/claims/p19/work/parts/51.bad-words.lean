theorem bad_w1_0 : (tables_1_1.take 40).all bad_f = true := by decide +kernel
theorem bad_w1_1 : ((tables_1_1.drop 40).take 40).all bad_f = true := by decide +kernel
theorem bad_w1_2 : (((tables_1_1.drop 40).drop 40).take 40).all bad_f = true := by decide +kernel
theorem bad_w1_3 : ((((tables_1_1.drop 40).drop 40).drop 40).take 40).all bad_f = true := by decide +kernel
theorem bad_w1_4 : (((((tables_1_1.drop 40).drop 40).drop 40).drop 40).take 40).all bad_f = true := by decide +kernel
theorem bad_w1_5 : (((((tables_1_1.drop 40).drop 40).drop 40).drop 40).drop 40).all bad_f = true := by decide +kernel
theorem bad_a1 : tables_1_1.all bad_f = true := (bad_spl _ 40 tables_1_1 bad_w1_0 (bad_spl _ 40 (tables_1_1.drop 40) bad_w1_1 (bad_spl _ 40 ((tables_1_1.drop 40).drop 40) bad_w1_2 (bad_spl _ 40 (((tables_1_1.drop 40).drop 40).drop 40) bad_w1_3 (bad_spl _ 40 ((((tables_1_1.drop 40).drop 40).drop 40).drop 40) bad_w1_4 bad_w1_5)))))
theorem bad_w2_0 : (tables_1_2.take 40).all bad_f = true := by decide +kernel
theorem bad_w2_1 : ((tables_1_2.drop 40).take 40).all bad_f = true := by decide +kernel
theorem bad_w2_2 : (((tables_1_2.drop 40).drop 40).take 40).all bad_f = true := by decide +kernel
theorem bad_w2_3 : ((((tables_1_2.drop 40).drop 40).drop 40).take 40).all bad_f = true := by decide +kernel
theorem bad_w2_4 : (((((tables_1_2.drop 40).drop 40).drop 40).drop 40).take 40).all bad_f = true := by decide +kernel
theorem bad_w2_5 : (((((tables_1_2.drop 40).drop 40).drop 40).drop 40).drop 40).all bad_f = true := by decide +kernel
theorem bad_a2 : tables_1_2.all bad_f = true := (bad_spl _ 40 tables_1_2 bad_w2_0 (bad_spl _ 40 (tables_1_2.drop 40) bad_w2_1 (bad_spl _ 40 ((tables_1_2.drop 40).drop 40) bad_w2_2 (bad_spl _ 40 (((tables_1_2.drop 40).drop 40).drop 40) bad_w2_3 (bad_spl _ 40 ((((tables_1_2.drop 40).drop 40).drop 40).drop 40) bad_w2_4 bad_w2_5)))))
theorem bad_w3_0 : (tables_1_3.take 40).all bad_f = true := by decide +kernel
theorem bad_w3_1 : ((tables_1_3.drop 40).take 40).all bad_f = true := by decide +kernel
theorem bad_w3_2 : (((tables_1_3.drop 40).drop 40).take 40).all bad_f = true := by decide +kernel
theorem bad_w3_3 : ((((tables_1_3.drop 40).drop 40).drop 40).take 40).all bad_f = true := by decide +kernel
theorem bad_w3_4 : (((((tables_1_3.drop 40).drop 40).drop 40).drop 40).take 40).all bad_f = true := by decide +kernel
theorem bad_w3_5 : (((((tables_1_3.drop 40).drop 40).drop 40).drop 40).drop 40).all bad_f = true := by decide +kernel
theorem bad_a3 : tables_1_3.all bad_f = true := (bad_spl _ 40 tables_1_3 bad_w3_0 (bad_spl _ 40 (tables_1_3.drop 40) bad_w3_1 (bad_spl _ 40 ((tables_1_3.drop 40).drop 40) bad_w3_2 (bad_spl _ 40 (((tables_1_3.drop 40).drop 40).drop 40) bad_w3_3 (bad_spl _ 40 ((((tables_1_3.drop 40).drop 40).drop 40).drop 40) bad_w3_4 bad_w3_5)))))
theorem bad_w4_0 : (tables_1_4.take 40).all bad_f = true := by decide +kernel
theorem bad_w4_1 : ((tables_1_4.drop 40).take 40).all bad_f = true := by decide +kernel
theorem bad_w4_2 : ((tables_1_4.drop 40).drop 40).all bad_f = true := by decide +kernel
theorem bad_a4 : tables_1_4.all bad_f = true := (bad_spl _ 40 tables_1_4 bad_w4_0 (bad_spl _ 40 (tables_1_4.drop 40) bad_w4_1 bad_w4_2))
theorem bad_words : ∀ c ∈ (Cond.code x code maxLocals ret :: tables_1), c.before start1.args0 bad_s = true := by
  intro c hc
  rcases List.mem_cons.mp hc with h | h
  · rw [h]; exact bad_wc
  · have h1 : c ∈ tables_1_1 ++ (tables_1_2 ++ (tables_1_3 ++ tables_1_4)) := h
    rcases List.mem_append.mp h1 with h2 | h1
    · exact bad_word (List.all_eq_true.mp bad_a1 c h2) (start1.words c hc)
    rcases List.mem_append.mp h1 with h2 | h1
    · exact bad_word (List.all_eq_true.mp bad_a2 c h2) (start1.words c hc)
    rcases List.mem_append.mp h1 with h2 | h1
    · exact bad_word (List.all_eq_true.mp bad_a3 c h2) (start1.words c hc)
    exact bad_word (List.all_eq_true.mp bad_a4 c h1) (start1.words c hc)

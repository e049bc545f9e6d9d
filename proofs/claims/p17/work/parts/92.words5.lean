set_option maxRecDepth 16384
theorem zr_o5_e : (tables_1_5).all (fun c => su_isCode c || c.before start1.args0 zr_s) = true := by decide +kernel
theorem zr_w5 : ∀ c ∈ tables_1_5, c.before start1.args0 zr_s = true := fun c h => su_words zr_o5_e (zr_codes start1.words_5) c h

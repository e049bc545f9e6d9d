set_option maxRecDepth 16384
theorem zr_o2_0 : ((tables_1_2).take 40).all (fun c => su_isCode c || c.before start1.args0 zr_s) = true := by decide +kernel
theorem zr_o2_1 : (((tables_1_2).drop 40).take 40).all (fun c => su_isCode c || c.before start1.args0 zr_s) = true := by decide +kernel
theorem zr_o2_2 : ((((tables_1_2).drop 40).drop 40).take 40).all (fun c => su_isCode c || c.before start1.args0 zr_s) = true := by decide +kernel
theorem zr_o2_3 : (((((tables_1_2).drop 40).drop 40).drop 40).take 40).all (fun c => su_isCode c || c.before start1.args0 zr_s) = true := by decide +kernel
theorem zr_o2_4 : ((((((tables_1_2).drop 40).drop 40).drop 40).drop 40).take 40).all (fun c => su_isCode c || c.before start1.args0 zr_s) = true := by decide +kernel
theorem zr_o2_e : ((((((tables_1_2).drop 40).drop 40).drop 40).drop 40).drop 40).all (fun c => su_isCode c || c.before start1.args0 zr_s) = true := by decide +kernel
theorem zr_w2 : ∀ c ∈ tables_1_2, c.before start1.args0 zr_s = true := fun c h => su_words (start1.su_all_split _ 40 (tables_1_2) zr_o2_0 (start1.su_all_split _ 40 ((tables_1_2).drop 40) zr_o2_1 (start1.su_all_split _ 40 (((tables_1_2).drop 40).drop 40) zr_o2_2 (start1.su_all_split _ 40 ((((tables_1_2).drop 40).drop 40).drop 40) zr_o2_3 (start1.su_all_split _ 40 (((((tables_1_2).drop 40).drop 40).drop 40).drop 40) zr_o2_4 zr_o2_e))))) (zr_codes start1.words_2) c h

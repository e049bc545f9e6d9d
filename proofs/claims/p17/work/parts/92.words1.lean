set_option maxRecDepth 16384
theorem zr_o1_0 : ((tables_1_1).take 40).all (fun c => su_isCode c || c.before start1.args0 zr_s) = true := by decide +kernel
theorem zr_o1_1 : (((tables_1_1).drop 40).take 40).all (fun c => su_isCode c || c.before start1.args0 zr_s) = true := by decide +kernel
theorem zr_o1_2 : ((((tables_1_1).drop 40).drop 40).take 40).all (fun c => su_isCode c || c.before start1.args0 zr_s) = true := by decide +kernel
theorem zr_o1_3 : (((((tables_1_1).drop 40).drop 40).drop 40).take 40).all (fun c => su_isCode c || c.before start1.args0 zr_s) = true := by decide +kernel
theorem zr_o1_4 : ((((((tables_1_1).drop 40).drop 40).drop 40).drop 40).take 40).all (fun c => su_isCode c || c.before start1.args0 zr_s) = true := by decide +kernel
theorem zr_o1_5 : (((((((tables_1_1).drop 40).drop 40).drop 40).drop 40).drop 40).take 12).all (fun c => su_isCode c || c.before start1.args0 zr_s) = true := by decide +kernel
theorem zr_o1_6 : ((((((((tables_1_1).drop 40).drop 40).drop 40).drop 40).drop 40).drop 12).take 19).all (fun c => su_isCode c || c.before start1.args0 zr_s) = true := by decide +kernel
theorem zr_o1_e : ((((((((tables_1_1).drop 40).drop 40).drop 40).drop 40).drop 40).drop 12).drop 19).all (fun c => su_isCode c || c.before start1.args0 zr_s) = true := by decide +kernel
theorem zr_w1 : ∀ c ∈ tables_1_1, c.before start1.args0 zr_s = true := fun c h => su_words (start1.su_all_split _ 40 (tables_1_1) zr_o1_0 (start1.su_all_split _ 40 ((tables_1_1).drop 40) zr_o1_1 (start1.su_all_split _ 40 (((tables_1_1).drop 40).drop 40) zr_o1_2 (start1.su_all_split _ 40 ((((tables_1_1).drop 40).drop 40).drop 40) zr_o1_3 (start1.su_all_split _ 40 (((((tables_1_1).drop 40).drop 40).drop 40).drop 40) zr_o1_4 (start1.su_all_split _ 12 ((((((tables_1_1).drop 40).drop 40).drop 40).drop 40).drop 40) zr_o1_5 (start1.su_all_split _ 19 (((((((tables_1_1).drop 40).drop 40).drop 40).drop 40).drop 40).drop 12) zr_o1_6 zr_o1_e))))))) (zr_codes start1.words_1) c h

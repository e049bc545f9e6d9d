set_option maxRecDepth 16384
theorem zr_o4_0 : ((tables_1_4).take 40).all (fun c => su_isCode c || c.before start1.args0 zr_s) = true := by decide +kernel
theorem zr_o4_1 : (((tables_1_4).drop 40).take 40).all (fun c => su_isCode c || c.before start1.args0 zr_s) = true := by decide +kernel
theorem zr_o4_2 : ((((tables_1_4).drop 40).drop 40).take 40).all (fun c => su_isCode c || c.before start1.args0 zr_s) = true := by decide +kernel
theorem zr_o4_3 : (((((tables_1_4).drop 40).drop 40).drop 40).take 40).all (fun c => su_isCode c || c.before start1.args0 zr_s) = true := by decide +kernel
theorem zr_o4_4 : ((((((tables_1_4).drop 40).drop 40).drop 40).drop 40).take 40).all (fun c => su_isCode c || c.before start1.args0 zr_s) = true := by decide +kernel
theorem zr_o4_e : ((((((tables_1_4).drop 40).drop 40).drop 40).drop 40).drop 40).all (fun c => su_isCode c || c.before start1.args0 zr_s) = true := by decide +kernel
theorem zr_w4 : ∀ c ∈ tables_1_4, c.before start1.args0 zr_s = true := fun c h => su_words (start1.su_all_split _ 40 (tables_1_4) zr_o4_0 (start1.su_all_split _ 40 ((tables_1_4).drop 40) zr_o4_1 (start1.su_all_split _ 40 (((tables_1_4).drop 40).drop 40) zr_o4_2 (start1.su_all_split _ 40 ((((tables_1_4).drop 40).drop 40).drop 40) zr_o4_3 (start1.su_all_split _ 40 (((((tables_1_4).drop 40).drop 40).drop 40).drop 40) zr_o4_4 zr_o4_e))))) (zr_codes start1.words_4) c h

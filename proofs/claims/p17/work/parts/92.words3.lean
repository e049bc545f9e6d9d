set_option maxRecDepth 16384
theorem zr_o3_0 : ((tables_1_3).take 40).all (fun c => su_isCode c || c.before start1.args0 zr_s) = true := by decide +kernel
theorem zr_o3_1 : (((tables_1_3).drop 40).take 40).all (fun c => su_isCode c || c.before start1.args0 zr_s) = true := by decide +kernel
theorem zr_o3_2 : ((((tables_1_3).drop 40).drop 40).take 40).all (fun c => su_isCode c || c.before start1.args0 zr_s) = true := by decide +kernel
theorem zr_o3_3 : (((((tables_1_3).drop 40).drop 40).drop 40).take 40).all (fun c => su_isCode c || c.before start1.args0 zr_s) = true := by decide +kernel
theorem zr_o3_4 : ((((((tables_1_3).drop 40).drop 40).drop 40).drop 40).take 40).all (fun c => su_isCode c || c.before start1.args0 zr_s) = true := by decide +kernel
theorem zr_o3_e : ((((((tables_1_3).drop 40).drop 40).drop 40).drop 40).drop 40).all (fun c => su_isCode c || c.before start1.args0 zr_s) = true := by decide +kernel
theorem zr_w3 : ∀ c ∈ tables_1_3, c.before start1.args0 zr_s = true := fun c h => su_words (start1.su_all_split _ 40 (tables_1_3) zr_o3_0 (start1.su_all_split _ 40 ((tables_1_3).drop 40) zr_o3_1 (start1.su_all_split _ 40 (((tables_1_3).drop 40).drop 40) zr_o3_2 (start1.su_all_split _ 40 ((((tables_1_3).drop 40).drop 40).drop 40) zr_o3_3 (start1.su_all_split _ 40 (((((tables_1_3).drop 40).drop 40).drop 40).drop 40) zr_o3_4 zr_o3_e))))) (zr_codes start1.words_3) c h

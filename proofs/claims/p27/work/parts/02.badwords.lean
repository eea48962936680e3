set_option maxRecDepth 16384 in
theorem bd_o_1_0 : (tables_1_1.take 40).all (fun c => su_isCode c || c.before start1.args0 bd_about) = true := by decide +kernel
set_option maxRecDepth 16384 in
theorem bd_o_1_1 : ((tables_1_1.drop 40).take 40).all (fun c => su_isCode c || c.before start1.args0 bd_about) = true := by decide +kernel
set_option maxRecDepth 16384 in
theorem bd_o_1_2 : (((tables_1_1.drop 40).drop 40).take 40).all (fun c => su_isCode c || c.before start1.args0 bd_about) = true := by decide +kernel
set_option maxRecDepth 16384 in
theorem bd_o_1_3 : ((((tables_1_1.drop 40).drop 40).drop 40).take 40).all (fun c => su_isCode c || c.before start1.args0 bd_about) = true := by decide +kernel
set_option maxRecDepth 16384 in
theorem bd_o_1_4 : (((((tables_1_1.drop 40).drop 40).drop 40).drop 40).take 40).all (fun c => su_isCode c || c.before start1.args0 bd_about) = true := by decide +kernel
set_option maxRecDepth 16384 in
theorem bd_o_1_5 : (((((tables_1_1.drop 40).drop 40).drop 40).drop 40).drop 40).all (fun c => su_isCode c || c.before start1.args0 bd_about) = true := by decide +kernel
theorem bd_w_1 : ∀ c ∈ tables_1_1, c.before start1.args0 bd_about = true := fun c h => su_words (start1.su_all_split _ 40 tables_1_1 bd_o_1_0 (start1.su_all_split _ 40 (tables_1_1.drop 40) bd_o_1_1 (start1.su_all_split _ 40 ((tables_1_1.drop 40).drop 40) bd_o_1_2 (start1.su_all_split _ 40 (((tables_1_1.drop 40).drop 40).drop 40) bd_o_1_3 (start1.su_all_split _ 40 ((((tables_1_1.drop 40).drop 40).drop 40).drop 40) bd_o_1_4 bd_o_1_5))))) (bd_codes tables_1_1 start1.words_1) c h
set_option maxRecDepth 16384 in
theorem bd_o_2_0 : (tables_1_2.take 40).all (fun c => su_isCode c || c.before start1.args0 bd_about) = true := by decide +kernel
set_option maxRecDepth 16384 in
theorem bd_o_2_1 : ((tables_1_2.drop 40).take 40).all (fun c => su_isCode c || c.before start1.args0 bd_about) = true := by decide +kernel
set_option maxRecDepth 16384 in
theorem bd_o_2_2 : (((tables_1_2.drop 40).drop 40).take 40).all (fun c => su_isCode c || c.before start1.args0 bd_about) = true := by decide +kernel
set_option maxRecDepth 16384 in
theorem bd_o_2_3 : ((((tables_1_2.drop 40).drop 40).drop 40).take 40).all (fun c => su_isCode c || c.before start1.args0 bd_about) = true := by decide +kernel
set_option maxRecDepth 16384 in
theorem bd_o_2_4 : (((((tables_1_2.drop 40).drop 40).drop 40).drop 40).take 40).all (fun c => su_isCode c || c.before start1.args0 bd_about) = true := by decide +kernel
set_option maxRecDepth 16384 in
theorem bd_o_2_5 : (((((tables_1_2.drop 40).drop 40).drop 40).drop 40).drop 40).all (fun c => su_isCode c || c.before start1.args0 bd_about) = true := by decide +kernel
theorem bd_w_2 : ∀ c ∈ tables_1_2, c.before start1.args0 bd_about = true := fun c h => su_words (start1.su_all_split _ 40 tables_1_2 bd_o_2_0 (start1.su_all_split _ 40 (tables_1_2.drop 40) bd_o_2_1 (start1.su_all_split _ 40 ((tables_1_2.drop 40).drop 40) bd_o_2_2 (start1.su_all_split _ 40 (((tables_1_2.drop 40).drop 40).drop 40) bd_o_2_3 (start1.su_all_split _ 40 ((((tables_1_2.drop 40).drop 40).drop 40).drop 40) bd_o_2_4 bd_o_2_5))))) (bd_codes tables_1_2 start1.words_2) c h
set_option maxRecDepth 16384 in
theorem bd_o_3_0 : (tables_1_3.take 40).all (fun c => su_isCode c || c.before start1.args0 bd_about) = true := by decide +kernel
set_option maxRecDepth 16384 in
theorem bd_o_3_1 : ((tables_1_3.drop 40).take 40).all (fun c => su_isCode c || c.before start1.args0 bd_about) = true := by decide +kernel
set_option maxRecDepth 16384 in
theorem bd_o_3_2 : (((tables_1_3.drop 40).drop 40).take 40).all (fun c => su_isCode c || c.before start1.args0 bd_about) = true := by decide +kernel
set_option maxRecDepth 16384 in
theorem bd_o_3_3 : ((((tables_1_3.drop 40).drop 40).drop 40).take 40).all (fun c => su_isCode c || c.before start1.args0 bd_about) = true := by decide +kernel
set_option maxRecDepth 16384 in
theorem bd_o_3_4 : (((((tables_1_3.drop 40).drop 40).drop 40).drop 40).take 40).all (fun c => su_isCode c || c.before start1.args0 bd_about) = true := by decide +kernel
set_option maxRecDepth 16384 in
theorem bd_o_3_5 : (((((tables_1_3.drop 40).drop 40).drop 40).drop 40).drop 40).all (fun c => su_isCode c || c.before start1.args0 bd_about) = true := by decide +kernel
theorem bd_w_3 : ∀ c ∈ tables_1_3, c.before start1.args0 bd_about = true := fun c h => su_words (start1.su_all_split _ 40 tables_1_3 bd_o_3_0 (start1.su_all_split _ 40 (tables_1_3.drop 40) bd_o_3_1 (start1.su_all_split _ 40 ((tables_1_3.drop 40).drop 40) bd_o_3_2 (start1.su_all_split _ 40 (((tables_1_3.drop 40).drop 40).drop 40) bd_o_3_3 (start1.su_all_split _ 40 ((((tables_1_3.drop 40).drop 40).drop 40).drop 40) bd_o_3_4 bd_o_3_5))))) (bd_codes tables_1_3 start1.words_3) c h
set_option maxRecDepth 16384 in
theorem bd_o_4_0 : (tables_1_4.take 40).all (fun c => su_isCode c || c.before start1.args0 bd_about) = true := by decide +kernel
set_option maxRecDepth 16384 in
theorem bd_o_4_1 : ((tables_1_4.drop 40).take 40).all (fun c => su_isCode c || c.before start1.args0 bd_about) = true := by decide +kernel
set_option maxRecDepth 16384 in
theorem bd_o_4_2 : (((tables_1_4.drop 40).drop 40).take 40).all (fun c => su_isCode c || c.before start1.args0 bd_about) = true := by decide +kernel
set_option maxRecDepth 16384 in
theorem bd_o_4_3 : ((((tables_1_4.drop 40).drop 40).drop 40).take 40).all (fun c => su_isCode c || c.before start1.args0 bd_about) = true := by decide +kernel
set_option maxRecDepth 16384 in
theorem bd_o_4_4 : (((((tables_1_4.drop 40).drop 40).drop 40).drop 40).take 40).all (fun c => su_isCode c || c.before start1.args0 bd_about) = true := by decide +kernel
set_option maxRecDepth 16384 in
theorem bd_o_4_5 : (((((tables_1_4.drop 40).drop 40).drop 40).drop 40).drop 40).all (fun c => su_isCode c || c.before start1.args0 bd_about) = true := by decide +kernel
theorem bd_w_4 : ∀ c ∈ tables_1_4, c.before start1.args0 bd_about = true := fun c h => su_words (start1.su_all_split _ 40 tables_1_4 bd_o_4_0 (start1.su_all_split _ 40 (tables_1_4.drop 40) bd_o_4_1 (start1.su_all_split _ 40 ((tables_1_4.drop 40).drop 40) bd_o_4_2 (start1.su_all_split _ 40 (((tables_1_4.drop 40).drop 40).drop 40) bd_o_4_3 (start1.su_all_split _ 40 ((((tables_1_4.drop 40).drop 40).drop 40).drop 40) bd_o_4_4 bd_o_4_5))))) (bd_codes tables_1_4 start1.words_4) c h
set_option maxRecDepth 16384 in
theorem bd_o_5_0 : (tables_1_5.take 40).all (fun c => su_isCode c || c.before start1.args0 bd_about) = true := by decide +kernel
set_option maxRecDepth 16384 in
theorem bd_o_5_1 : ((tables_1_5.drop 40).take 40).all (fun c => su_isCode c || c.before start1.args0 bd_about) = true := by decide +kernel
set_option maxRecDepth 16384 in
theorem bd_o_5_2 : (((tables_1_5.drop 40).drop 40).take 40).all (fun c => su_isCode c || c.before start1.args0 bd_about) = true := by decide +kernel
set_option maxRecDepth 16384 in
theorem bd_o_5_3 : ((((tables_1_5.drop 40).drop 40).drop 40).take 40).all (fun c => su_isCode c || c.before start1.args0 bd_about) = true := by decide +kernel
set_option maxRecDepth 16384 in
theorem bd_o_5_4 : (((((tables_1_5.drop 40).drop 40).drop 40).drop 40).take 40).all (fun c => su_isCode c || c.before start1.args0 bd_about) = true := by decide +kernel
set_option maxRecDepth 16384 in
theorem bd_o_5_5 : (((((tables_1_5.drop 40).drop 40).drop 40).drop 40).drop 40).all (fun c => su_isCode c || c.before start1.args0 bd_about) = true := by decide +kernel
theorem bd_w_5 : ∀ c ∈ tables_1_5, c.before start1.args0 bd_about = true := fun c h => su_words (start1.su_all_split _ 40 tables_1_5 bd_o_5_0 (start1.su_all_split _ 40 (tables_1_5.drop 40) bd_o_5_1 (start1.su_all_split _ 40 ((tables_1_5.drop 40).drop 40) bd_o_5_2 (start1.su_all_split _ 40 (((tables_1_5.drop 40).drop 40).drop 40) bd_o_5_3 (start1.su_all_split _ 40 ((((tables_1_5.drop 40).drop 40).drop 40).drop 40) bd_o_5_4 bd_o_5_5))))) (bd_codes tables_1_5 start1.words_5) c h
set_option maxRecDepth 16384 in
theorem bd_o_6_0 : (tables_1_6.take 40).all (fun c => su_isCode c || c.before start1.args0 bd_about) = true := by decide +kernel
set_option maxRecDepth 16384 in
theorem bd_o_6_1 : (tables_1_6.drop 40).all (fun c => su_isCode c || c.before start1.args0 bd_about) = true := by decide +kernel
theorem bd_w_6 : ∀ c ∈ tables_1_6, c.before start1.args0 bd_about = true := fun c h => su_words (start1.su_all_split _ 40 tables_1_6 bd_o_6_0 bd_o_6_1) (bd_codes tables_1_6 start1.words_6) c h

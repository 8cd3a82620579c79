/-! the words of the tables hold there too: all but those on code -/
set_option maxRecDepth 16384 in
theorem rf_w_1_0 : (tables_1_1.take 40).all (fun c => su_isCode c || c.before start1.args0 rf_s) = true := by decide +kernel
set_option maxRecDepth 16384 in
theorem rf_w_1_1 : ((tables_1_1.drop 40).take 40).all (fun c => su_isCode c || c.before start1.args0 rf_s) = true := by decide +kernel
set_option maxRecDepth 16384 in
theorem rf_w_1_2 : (((tables_1_1.drop 40).drop 40).take 40).all (fun c => su_isCode c || c.before start1.args0 rf_s) = true := by decide +kernel
set_option maxRecDepth 16384 in
theorem rf_w_1_3 : ((((tables_1_1.drop 40).drop 40).drop 40).take 34).all (fun c => su_isCode c || c.before start1.args0 rf_s) = true := by decide +kernel
set_option maxRecDepth 16384 in
theorem rf_w_1_4 : (((((tables_1_1.drop 40).drop 40).drop 40).drop 34).take 40).all (fun c => su_isCode c || c.before start1.args0 rf_s) = true := by decide +kernel
set_option maxRecDepth 16384 in
theorem rf_w_1_5 : ((((((tables_1_1.drop 40).drop 40).drop 40).drop 34).drop 40).take 40).all (fun c => su_isCode c || c.before start1.args0 rf_s) = true := by decide +kernel
set_option maxRecDepth 16384 in
theorem rf_w_1_6 : ((((((tables_1_1.drop 40).drop 40).drop 40).drop 34).drop 40).drop 40).all (fun c => su_isCode c || c.before start1.args0 rf_s) = true := by decide +kernel
theorem rf_all_1 : tables_1_1.all (fun c => su_isCode c || c.before start1.args0 rf_s) = true := start1.su_all_split _ 40 tables_1_1 rf_w_1_0 (start1.su_all_split _ 40 (tables_1_1.drop 40) rf_w_1_1 (start1.su_all_split _ 40 ((tables_1_1.drop 40).drop 40) rf_w_1_2 (start1.su_all_split _ 34 (((tables_1_1.drop 40).drop 40).drop 40) rf_w_1_3 (start1.su_all_split _ 40 ((((tables_1_1.drop 40).drop 40).drop 40).drop 34) rf_w_1_4 (start1.su_all_split _ 40 (((((tables_1_1.drop 40).drop 40).drop 40).drop 34).drop 40) rf_w_1_5 (rf_w_1_6))))))
set_option maxRecDepth 16384 in
theorem rf_w_2_0 : (tables_1_2.take 40).all (fun c => su_isCode c || c.before start1.args0 rf_s) = true := by decide +kernel
set_option maxRecDepth 16384 in
theorem rf_w_2_1 : ((tables_1_2.drop 40).take 40).all (fun c => su_isCode c || c.before start1.args0 rf_s) = true := by decide +kernel
set_option maxRecDepth 16384 in
theorem rf_w_2_2 : (((tables_1_2.drop 40).drop 40).take 40).all (fun c => su_isCode c || c.before start1.args0 rf_s) = true := by decide +kernel
set_option maxRecDepth 16384 in
theorem rf_w_2_3 : ((((tables_1_2.drop 40).drop 40).drop 40).take 40).all (fun c => su_isCode c || c.before start1.args0 rf_s) = true := by decide +kernel
set_option maxRecDepth 16384 in
theorem rf_w_2_4 : (((((tables_1_2.drop 40).drop 40).drop 40).drop 40).take 40).all (fun c => su_isCode c || c.before start1.args0 rf_s) = true := by decide +kernel
set_option maxRecDepth 16384 in
theorem rf_w_2_5 : (((((tables_1_2.drop 40).drop 40).drop 40).drop 40).drop 40).all (fun c => su_isCode c || c.before start1.args0 rf_s) = true := by decide +kernel
theorem rf_all_2 : tables_1_2.all (fun c => su_isCode c || c.before start1.args0 rf_s) = true := start1.su_all_split _ 40 tables_1_2 rf_w_2_0 (start1.su_all_split _ 40 (tables_1_2.drop 40) rf_w_2_1 (start1.su_all_split _ 40 ((tables_1_2.drop 40).drop 40) rf_w_2_2 (start1.su_all_split _ 40 (((tables_1_2.drop 40).drop 40).drop 40) rf_w_2_3 (start1.su_all_split _ 40 ((((tables_1_2.drop 40).drop 40).drop 40).drop 40) rf_w_2_4 (rf_w_2_5)))))
set_option maxRecDepth 16384 in
theorem rf_w_3_0 : (tables_1_3.take 40).all (fun c => su_isCode c || c.before start1.args0 rf_s) = true := by decide +kernel
set_option maxRecDepth 16384 in
theorem rf_w_3_1 : ((tables_1_3.drop 40).take 40).all (fun c => su_isCode c || c.before start1.args0 rf_s) = true := by decide +kernel
set_option maxRecDepth 16384 in
theorem rf_w_3_2 : (((tables_1_3.drop 40).drop 40).take 40).all (fun c => su_isCode c || c.before start1.args0 rf_s) = true := by decide +kernel
set_option maxRecDepth 16384 in
theorem rf_w_3_3 : ((((tables_1_3.drop 40).drop 40).drop 40).take 40).all (fun c => su_isCode c || c.before start1.args0 rf_s) = true := by decide +kernel
set_option maxRecDepth 16384 in
theorem rf_w_3_4 : (((((tables_1_3.drop 40).drop 40).drop 40).drop 40).take 40).all (fun c => su_isCode c || c.before start1.args0 rf_s) = true := by decide +kernel
set_option maxRecDepth 16384 in
theorem rf_w_3_5 : (((((tables_1_3.drop 40).drop 40).drop 40).drop 40).drop 40).all (fun c => su_isCode c || c.before start1.args0 rf_s) = true := by decide +kernel
theorem rf_all_3 : tables_1_3.all (fun c => su_isCode c || c.before start1.args0 rf_s) = true := start1.su_all_split _ 40 tables_1_3 rf_w_3_0 (start1.su_all_split _ 40 (tables_1_3.drop 40) rf_w_3_1 (start1.su_all_split _ 40 ((tables_1_3.drop 40).drop 40) rf_w_3_2 (start1.su_all_split _ 40 (((tables_1_3.drop 40).drop 40).drop 40) rf_w_3_3 (start1.su_all_split _ 40 ((((tables_1_3.drop 40).drop 40).drop 40).drop 40) rf_w_3_4 (rf_w_3_5)))))
set_option maxRecDepth 16384 in
theorem rf_w_4_0 : (tables_1_4.take 40).all (fun c => su_isCode c || c.before start1.args0 rf_s) = true := by decide +kernel
set_option maxRecDepth 16384 in
theorem rf_w_4_1 : ((tables_1_4.drop 40).take 40).all (fun c => su_isCode c || c.before start1.args0 rf_s) = true := by decide +kernel
set_option maxRecDepth 16384 in
theorem rf_w_4_2 : (((tables_1_4.drop 40).drop 40).take 38).all (fun c => su_isCode c || c.before start1.args0 rf_s) = true := by decide +kernel
set_option maxRecDepth 16384 in
theorem rf_w_4_3 : ((((tables_1_4.drop 40).drop 40).drop 38).take 40).all (fun c => su_isCode c || c.before start1.args0 rf_s) = true := by decide +kernel
set_option maxRecDepth 16384 in
theorem rf_w_4_4 : (((((tables_1_4.drop 40).drop 40).drop 38).drop 40).take 40).all (fun c => su_isCode c || c.before start1.args0 rf_s) = true := by decide +kernel
set_option maxRecDepth 16384 in
theorem rf_w_4_5 : ((((((tables_1_4.drop 40).drop 40).drop 38).drop 40).drop 40).take 40).all (fun c => su_isCode c || c.before start1.args0 rf_s) = true := by decide +kernel
set_option maxRecDepth 16384 in
theorem rf_w_4_6 : ((((((tables_1_4.drop 40).drop 40).drop 38).drop 40).drop 40).drop 40).all (fun c => su_isCode c || c.before start1.args0 rf_s) = true := by decide +kernel
theorem rf_all_4 : tables_1_4.all (fun c => su_isCode c || c.before start1.args0 rf_s) = true := start1.su_all_split _ 40 tables_1_4 rf_w_4_0 (start1.su_all_split _ 40 (tables_1_4.drop 40) rf_w_4_1 (start1.su_all_split _ 38 ((tables_1_4.drop 40).drop 40) rf_w_4_2 (start1.su_all_split _ 40 (((tables_1_4.drop 40).drop 40).drop 38) rf_w_4_3 (start1.su_all_split _ 40 ((((tables_1_4.drop 40).drop 40).drop 38).drop 40) rf_w_4_4 (start1.su_all_split _ 40 (((((tables_1_4.drop 40).drop 40).drop 38).drop 40).drop 40) rf_w_4_5 (rf_w_4_6))))))
set_option maxRecDepth 16384 in
theorem rf_w_5_0 : (tables_1_5.take 40).all (fun c => su_isCode c || c.before start1.args0 rf_s) = true := by decide +kernel
set_option maxRecDepth 16384 in
theorem rf_w_5_1 : ((tables_1_5.drop 40).take 40).all (fun c => su_isCode c || c.before start1.args0 rf_s) = true := by decide +kernel
set_option maxRecDepth 16384 in
theorem rf_w_5_2 : (((tables_1_5.drop 40).drop 40).take 24).all (fun c => su_isCode c || c.before start1.args0 rf_s) = true := by decide +kernel
set_option maxRecDepth 16384 in
theorem rf_w_5_3 : ((((tables_1_5.drop 40).drop 40).drop 24).take 40).all (fun c => su_isCode c || c.before start1.args0 rf_s) = true := by decide +kernel
set_option maxRecDepth 16384 in
theorem rf_w_5_4 : (((((tables_1_5.drop 40).drop 40).drop 24).drop 40).take 40).all (fun c => su_isCode c || c.before start1.args0 rf_s) = true := by decide +kernel
set_option maxRecDepth 16384 in
theorem rf_w_5_5 : ((((((tables_1_5.drop 40).drop 40).drop 24).drop 40).drop 40).take 40).all (fun c => su_isCode c || c.before start1.args0 rf_s) = true := by decide +kernel
set_option maxRecDepth 16384 in
theorem rf_w_5_6 : ((((((tables_1_5.drop 40).drop 40).drop 24).drop 40).drop 40).drop 40).all (fun c => su_isCode c || c.before start1.args0 rf_s) = true := by decide +kernel
theorem rf_all_5 : tables_1_5.all (fun c => su_isCode c || c.before start1.args0 rf_s) = true := start1.su_all_split _ 40 tables_1_5 rf_w_5_0 (start1.su_all_split _ 40 (tables_1_5.drop 40) rf_w_5_1 (start1.su_all_split _ 24 ((tables_1_5.drop 40).drop 40) rf_w_5_2 (start1.su_all_split _ 40 (((tables_1_5.drop 40).drop 40).drop 24) rf_w_5_3 (start1.su_all_split _ 40 ((((tables_1_5.drop 40).drop 40).drop 24).drop 40) rf_w_5_4 (start1.su_all_split _ 40 (((((tables_1_5.drop 40).drop 40).drop 24).drop 40).drop 40) rf_w_5_5 (rf_w_5_6))))))
set_option maxRecDepth 16384 in
theorem rf_w_6_0 : (tables_1_6.take 33).all (fun c => su_isCode c || c.before start1.args0 rf_s) = true := by decide +kernel
set_option maxRecDepth 16384 in
theorem rf_w_6_1 : ((tables_1_6.drop 33).take 31).all (fun c => su_isCode c || c.before start1.args0 rf_s) = true := by decide +kernel
set_option maxRecDepth 16384 in
theorem rf_w_6_2 : (((tables_1_6.drop 33).drop 31).take 31).all (fun c => su_isCode c || c.before start1.args0 rf_s) = true := by decide +kernel
set_option maxRecDepth 16384 in
theorem rf_w_6_3 : ((((tables_1_6.drop 33).drop 31).drop 31).take 31).all (fun c => su_isCode c || c.before start1.args0 rf_s) = true := by decide +kernel
set_option maxRecDepth 16384 in
theorem rf_w_6_4 : (((((tables_1_6.drop 33).drop 31).drop 31).drop 31).take 31).all (fun c => su_isCode c || c.before start1.args0 rf_s) = true := by decide +kernel
set_option maxRecDepth 16384 in
theorem rf_w_6_5 : ((((((tables_1_6.drop 33).drop 31).drop 31).drop 31).drop 31).take 31).all (fun c => su_isCode c || c.before start1.args0 rf_s) = true := by decide +kernel
set_option maxRecDepth 16384 in
theorem rf_w_6_6 : (((((((tables_1_6.drop 33).drop 31).drop 31).drop 31).drop 31).drop 31).take 31).all (fun c => su_isCode c || c.before start1.args0 rf_s) = true := by decide +kernel
set_option maxRecDepth 16384 in
theorem rf_w_6_7 : (((((((tables_1_6.drop 33).drop 31).drop 31).drop 31).drop 31).drop 31).drop 31).all (fun c => su_isCode c || c.before start1.args0 rf_s) = true := by decide +kernel
theorem rf_all_6 : tables_1_6.all (fun c => su_isCode c || c.before start1.args0 rf_s) = true := start1.su_all_split _ 33 tables_1_6 rf_w_6_0 (start1.su_all_split _ 31 (tables_1_6.drop 33) rf_w_6_1 (start1.su_all_split _ 31 ((tables_1_6.drop 33).drop 31) rf_w_6_2 (start1.su_all_split _ 31 (((tables_1_6.drop 33).drop 31).drop 31) rf_w_6_3 (start1.su_all_split _ 31 ((((tables_1_6.drop 33).drop 31).drop 31).drop 31) rf_w_6_4 (start1.su_all_split _ 31 (((((tables_1_6.drop 33).drop 31).drop 31).drop 31).drop 31) rf_w_6_5 (start1.su_all_split _ 31 ((((((tables_1_6.drop 33).drop 31).drop 31).drop 31).drop 31).drop 31) rf_w_6_6 (rf_w_6_7)))))))
set_option maxRecDepth 16384 in
theorem rf_w_7_0 : (tables_1_7.take 31).all (fun c => su_isCode c || c.before start1.args0 rf_s) = true := by decide +kernel
set_option maxRecDepth 16384 in
theorem rf_w_7_1 : ((tables_1_7.drop 31).take 31).all (fun c => su_isCode c || c.before start1.args0 rf_s) = true := by decide +kernel
set_option maxRecDepth 16384 in
theorem rf_w_7_2 : ((tables_1_7.drop 31).drop 31).all (fun c => su_isCode c || c.before start1.args0 rf_s) = true := by decide +kernel
theorem rf_all_7 : tables_1_7.all (fun c => su_isCode c || c.before start1.args0 rf_s) = true := start1.su_all_split _ 31 tables_1_7 rf_w_7_0 (start1.su_all_split _ 31 (tables_1_7.drop 31) rf_w_7_1 (rf_w_7_2))

/-! printed by wip/gen_law.py: the table of the law itself -/
theorem so_split {α : Type} {f : α → Bool} (k : Nat) (l : List α) (h1 : (l.take k).all f = true) (h2 : (l.drop k).all f = true) : l.all f = true := by
  rw [← List.take_append_drop k l, List.all_append, h1, h2]
  rfl
abbrev so_lawrow : Nat × List (Nat × am_X) → Bool := fun ch => ch.2.all (so_row "CrowdOutLaw" code 4 ret false)
theorem ok_law_0 : ((tb_law).take 5).all so_lawrow = true := by decide +kernel
theorem ok_law_1 : (((tb_law).drop 5).take 5).all so_lawrow = true := by decide +kernel
theorem ok_law_2 : ((((tb_law).drop 5).drop 5).take 5).all so_lawrow = true := by decide +kernel
theorem ok_law_3 : (((((tb_law).drop 5).drop 5).drop 5).take 5).all so_lawrow = true := by decide +kernel
theorem ok_law_4 : ((((((tb_law).drop 5).drop 5).drop 5).drop 5).take 5).all so_lawrow = true := by decide +kernel
theorem ok_law_5 : (((((((tb_law).drop 5).drop 5).drop 5).drop 5).drop 5).take 5).all so_lawrow = true := by decide +kernel
theorem ok_law_6 : ((((((((tb_law).drop 5).drop 5).drop 5).drop 5).drop 5).drop 5).take 5).all so_lawrow = true := by decide +kernel
theorem ok_law_7 : (((((((((tb_law).drop 5).drop 5).drop 5).drop 5).drop 5).drop 5).drop 5).take 5).all so_lawrow = true := by decide +kernel
theorem ok_law_8 : ((((((((((tb_law).drop 5).drop 5).drop 5).drop 5).drop 5).drop 5).drop 5).drop 5).take 5).all so_lawrow = true := by decide +kernel
theorem ok_law_9 : (((((((((((tb_law).drop 5).drop 5).drop 5).drop 5).drop 5).drop 5).drop 5).drop 5).drop 5).take 5).all so_lawrow = true := by decide +kernel
theorem ok_law_10 : ((((((((((((tb_law).drop 5).drop 5).drop 5).drop 5).drop 5).drop 5).drop 5).drop 5).drop 5).drop 5).take 5).all so_lawrow = true := by decide +kernel
theorem ok_law_11 : ((((((((((((tb_law).drop 5).drop 5).drop 5).drop 5).drop 5).drop 5).drop 5).drop 5).drop 5).drop 5).drop 5).all so_lawrow = true := by decide +kernel
theorem ok_law : so_tbl "CrowdOutLaw" code 4 ret false tb_law = true := (so_split 5 (tb_law) ok_law_0 (so_split 5 ((tb_law).drop 5) ok_law_1 (so_split 5 (((tb_law).drop 5).drop 5) ok_law_2 (so_split 5 ((((tb_law).drop 5).drop 5).drop 5) ok_law_3 (so_split 5 (((((tb_law).drop 5).drop 5).drop 5).drop 5) ok_law_4 (so_split 5 ((((((tb_law).drop 5).drop 5).drop 5).drop 5).drop 5) ok_law_5 (so_split 5 (((((((tb_law).drop 5).drop 5).drop 5).drop 5).drop 5).drop 5) ok_law_6 (so_split 5 ((((((((tb_law).drop 5).drop 5).drop 5).drop 5).drop 5).drop 5).drop 5) ok_law_7 (so_split 5 (((((((((tb_law).drop 5).drop 5).drop 5).drop 5).drop 5).drop 5).drop 5).drop 5) ok_law_8 (so_split 5 ((((((((((tb_law).drop 5).drop 5).drop 5).drop 5).drop 5).drop 5).drop 5).drop 5).drop 5) ok_law_9 (so_split 5 (((((((((((tb_law).drop 5).drop 5).drop 5).drop 5).drop 5).drop 5).drop 5).drop 5).drop 5).drop 5) ok_law_10 ok_law_11)))))))))))

section
variable {sc : Nat × (Nat → Int32)} {g : SG} {Q : Option Value → ri_W → Prop}
theorem z7 : (0 : Nat) < 7 := by decide
theorem c_isDate {w : ri_W} {v : Int32} : ev sc 80 [.int v] w Q = Q (some (.int (ii v 0 399))) w := by
  simp only [↓en80, ↓u80_0, ↓u80_1, ↓u80_2, ↓u80_5, ↓u80_8, ↓s_isIn, ↓c_v_some, cb_ii]
theorem c_knowsGroup {v : Int32} : ev sc 81 [.ref 0, .int v] (Wd g) Q = Q (some (.int (ii v 0 ((g.1 0).1 2 - 1)))) (Wd g) := by
  simp only [↓en81, ↓u81_0, ↓u81_1, ↓u81_2, ↓u81_3, ↓u81_6, ↓u81_9, ↓u81_10, ↓u81_11, ↓u81_14, ↓nf0, ↓sf2 z7, ↓s_isIn, ↓c_v_some, cb_ii]
theorem c_knowsTeacher {v : Int32} : ev sc 82 [.ref 0, .int v] (Wd g) Q = Q (some (.int (ii v 0 ((g.1 0).1 3 - 1)))) (Wd g) := by
  simp only [↓en82, ↓u82_0, ↓u82_1, ↓u82_2, ↓u82_3, ↓u82_6, ↓u82_9, ↓u82_10, ↓u82_11, ↓u82_14, ↓nf0, ↓sf3 z7, ↓s_isIn, ↓c_v_some, cb_ii]
theorem c_knowsCourse {v : Int32} : ev sc 83 [.ref 0, .int v] (Wd g) Q = Q (some (.int (ii v 0 ((g.1 0).1 5 - 1)))) (Wd g) := by
  simp only [↓en83, ↓u83_0, ↓u83_1, ↓u83_4, ↓u83_5, ↓u83_8, ↓nf0, ↓s_o z7, ↓s_knowsCourse z7, ↓c_v_some, cb_ii]
end

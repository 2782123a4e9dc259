section
variable {sc : Nat × (Nat → Int32)} {W : ri_W} {Q : Option Value → ri_W → Prop}
def txl (B : Nat) : List ri_E := [ri_O 3 [.int 0, .int 0, .ref (B + 1), .ref (B + 3), .int 0], ri_O 0 [.int 3, .ref (B + 2)], ri_I 30 (fun _ => 0), ri_O 0 [.int 1, .ref (B + 4)], ri_I 60 (fun _ => 0)]
theorem i_text : ev sc 52 [.ref W.length] (W ++ [ri_O 3 (ri_df 3)]) Q = Q none (W ++ txl W.length) := by
  have q2 := fun Q (V : ri_W) => i_num (sc := sc) (Q := Q) (W := V) (x1 := 10) (x2 := 3) (N := 30) (by decide) (by decide)
  have q3 := fun Q (V : ri_W) => i_num (sc := sc) (Q := Q) (W := V) (x1 := 60) (x2 := 1) (N := 60) (by decide) (by decide)
  have l2 : (ri_df 3).length = 5 := rfl
  simp (decide := true) only [↓en52, ↓u52_0, ↓u52_1, ↓u52_4, ↓u52_5, ↓u52_6, ↓u52_9, ↓u52_10, ↓u52_11, ↓u52_14, ↓u52_15, ↓u52_18, ↓u52_19, ↓u52_21, ↓u52_22, ↓u52_25, ↓u52_28, ↓u52_29, ↓u52_32, ↓u52_33, ↓u52_35, ↓u52_36, ↓u52_39, ↓u52_42, ↓u52_43, ↓u52_44, ↓u52_47, ↓pf_l, ↓pf_l2, List.length_set, l2, ↓q2, ↓q3, ↓c_v_none]
  congr 1
  simp only [List.length_append, List.length_cons, List.length_nil, List.nil_append, List.append_assoc, List.cons_append]
  congr 1
end

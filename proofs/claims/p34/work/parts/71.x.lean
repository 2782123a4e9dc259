theorem pf_l {W : ri_W} {ci k : Nat} {fs : List Value} {l : List ri_E} {v : Value} {K : ri_W → Prop} (hk : k < fs.length) : c_p (ri_pf (W ++ ri_O ci fs :: l) W.length ci k v) K = K (W ++ ri_O ci (fs.set k v) :: l) := by
  have e : ri_pf (W ++ ri_O ci fs :: l) W.length ci k v = some (W ++ ri_O ci (fs.set k v) :: l) := by
    have hg : ri_gO (W ++ ri_O ci fs :: l) W.length = some (ci, fs) := by
      unfold ri_gO
      rw [List.getElem?_append_right (Nat.le_refl _), Nat.sub_self]
      rfl
    unfold ri_pf
    rw [hg]
    simp only [hk, and_self, if_true]
    rw [List.set_append_right _ _ (Nat.le_refl _), Nat.sub_self]
    rfl
  rw [e]
  rfl
theorem pf_l2 {W X : ri_W} {ci k : Nat} {fs : List Value} {l : List ri_E} {v : Value} {K : ri_W → Prop} (hk : k < fs.length) : c_p (ri_pf ((W ++ ri_O ci fs :: l) ++ X) W.length ci k v) K = K (W ++ ri_O ci (fs.set k v) :: (l ++ X)) := by
  rw [List.append_assoc, List.cons_append, pf_l hk]
section
variable {sc : Nat × (Nat → Int32)} {W : ri_W} {Q : Option Value → ri_W → Prop}
theorem df_0 : ri_df 0 = [.int 0, .null] := rfl
theorem i_num {x1 x2 : Int32} {N : Nat} (h1 : (if (0 : Int32) < x1 * x2 then x1 * x2 else 0) = nI N) (hN : N ≤ 100000) : ev sc 0 [.ref W.length, .int x1, .int x2] (W ++ [ri_O 0 (ri_df 0)]) Q = Q none (W ++ [ri_O 0 [.int x2, .ref (W.length + 1)], ri_I N (fun _ => 0)]) := by
  have h2 : (¬ nI N < 0 ∧ N ≤ 100000) = True := eq_true ⟨nI_pos (by omega), hN⟩
  have hE : ((W ++ [ri_O 0 ((ri_df 0).set 0 (.int x2))]) ++ [ri_I N (fun _ => 0)]) = W ++ [ri_O 0 ((ri_df 0).set 0 (.int x2)), ri_I N (fun _ => 0)] := by simp
  have hF : W ++ ri_O 0 (((ri_df 0).set 0 (.int x2)).set 1 (.ref (W ++ [ri_O 0 ((ri_df 0).set 0 (.int x2))]).length)) :: ([] ++ [ri_I N (fun _ => 0)]) = W ++ [ri_O 0 [.int x2, .ref (W.length + 1)], ri_I N (fun _ => 0)] := by
    rw [List.length_append]
    rfl
  simp only [↓en0, ↓u0_0, ↓u0_1, ↓u0_4, ↓u0_5, ↓u0_6, ↓u0_9, ↓u0_10, ↓u0_11, ↓u0_12, ↓u0_13, ↓u0_14, ↓pf_l (ci := 0) (k := 0) (fs := ri_df 0) (by decide)]
  rw [h1]
  simp only [↓u0_17, nI_clamp (show N < 2 ^ 31 by omega), h2, if_true, ↓u0_19, ↓u0_22, ↓pf_l2 (ci := 0) (k := 1) (fs := (ri_df 0).set 0 (.int x2)) (by simp [df_0])]
  rw [hF]
theorem i_sets {x1 : Int32} {N : Nat} (h1 : (if (0 : Int32) < x1 then x1 else 0) = nI N) (hN : N ≤ 100000) : ev sc 4 [.ref W.length, .int x1] (W ++ [ri_O 1 (ri_df 1)]) Q = Q none (W ++ [ri_O 1 [.ref (W.length + 1)], ri_J N (fun _ => 0)]) := by
  have h2 : (¬ nI N < 0 ∧ N ≤ 100000) = True := eq_true ⟨nI_pos (by omega), hN⟩
  have hF : W ++ ri_O 1 ((ri_df 1).set 0 (.ref (W ++ [ri_O 1 (ri_df 1)]).length)) :: ([] ++ [ri_J N (fun _ => 0)]) = W ++ [ri_O 1 [.ref (W.length + 1)], ri_J N (fun _ => 0)] := by
    rw [List.length_append]
    rfl
  simp only [↓en4, ↓u4_0, ↓u4_1, ↓u4_4, ↓u4_5, ↓u4_6, ↓u4_7]
  rw [h1]
  simp only [↓u4_10, nI_clamp (show N < 2 ^ 31 by omega), h2, if_true, ↓u4_12, ↓u4_15, ↓pf_l2 (ci := 1) (k := 0) (fs := ri_df 1) (by decide)]
  rw [hF]
/-- a new state: its 21 cells -/
def s00 : SV := (fun q => if q = 0 then 6 else if q = 1 then 5 else 0, fun _ _ => 0, fun _ _ => 0)
def stl (B : Nat) : List ri_E := (List.range 21).map (st_cell s00 B)
theorem i_state : ev sc 13 [.ref W.length] (W ++ [ri_O 2 (ri_df 2)]) Q = Q none (W ++ stl W.length) := by
  have q2 := fun Q (V : ri_W) => i_num (sc := sc) (Q := Q) (W := V) (x1 := 8) (x2 := 2) (N := 16) (by decide) (by decide)
  have q3 := fun Q (V : ri_W) => i_num (sc := sc) (Q := Q) (W := V) (x1 := 6) (x2 := 1) (N := 6) (by decide) (by decide)
  have q4 := fun Q (V : ri_W) => i_num (sc := sc) (Q := Q) (W := V) (x1 := 20) (x2 := 6) (N := 120) (by decide) (by decide)
  have r1 := fun Q (V : ri_W) => i_sets (sc := sc) (Q := Q) (W := V) (x1 := 7) (N := 7) (by decide) (by decide)
  have r2 := fun Q (V : ri_W) => i_sets (sc := sc) (Q := Q) (W := V) (x1 := 8) (N := 8) (by decide) (by decide)
  have r3 := fun Q (V : ri_W) => i_sets (sc := sc) (Q := Q) (W := V) (x1 := 120) (N := 120) (by decide) (by decide)
  have r4 := fun Q (V : ri_W) => i_sets (sc := sc) (Q := Q) (W := V) (x1 := 20) (N := 20) (by decide) (by decide)
  have r5 := fun Q (V : ri_W) => i_sets (sc := sc) (Q := Q) (W := V) (x1 := 6) (N := 6) (by decide) (by decide)
  have r6 := fun Q (V : ri_W) => i_sets (sc := sc) (Q := Q) (W := V) (x1 := 16) (N := 16) (by decide) (by decide)
  have l2 : (ri_df 2).length = 16 := rfl
  simp (decide := true) only [↓en13, ↓u13_0, ↓u13_1, ↓u13_4, ↓u13_5, ↓u13_7, ↓u13_10, ↓u13_11, ↓u13_12, ↓u13_15, ↓u13_16, ↓u13_17, ↓u13_20, ↓u13_21, ↓u13_22, ↓u13_25, ↓u13_26, ↓u13_27, ↓u13_30, ↓u13_31, ↓u13_32, ↓u13_35, ↓u13_36, ↓u13_39, ↓u13_40, ↓u13_42, ↓u13_43, ↓u13_46, ↓u13_49, ↓u13_50, ↓u13_53, ↓u13_54, ↓u13_56, ↓u13_57, ↓u13_60, ↓u13_63, ↓u13_64, ↓u13_67, ↓u13_68, ↓u13_70, ↓u13_72, ↓u13_75, ↓u13_78, ↓u13_79, ↓u13_82, ↓u13_83, ↓u13_85, ↓u13_88, ↓u13_91, ↓u13_92, ↓u13_95, ↓u13_96, ↓u13_98, ↓u13_101, ↓u13_104, ↓u13_105, ↓u13_108, ↓u13_109, ↓u13_111, ↓u13_114, ↓u13_117, ↓u13_118, ↓u13_121, ↓u13_122, ↓u13_124, ↓u13_127, ↓u13_130, ↓u13_131, ↓u13_134, ↓u13_135, ↓u13_137, ↓u13_140, ↓u13_143, ↓u13_144, ↓u13_147, ↓u13_148, ↓u13_150, ↓u13_153, ↓u13_156, ↓u13_157, ↓u13_160, ↓u13_161, ↓u13_163, ↓u13_166, ↓u13_169, ↓pf_l, ↓pf_l2, List.length_set, l2, ↓q2, ↓q3, ↓q4, ↓r1, ↓r2, ↓r3, ↓r4, ↓r5, ↓r6, ↓c_v_none]
  congr 1
  simp only [List.length_append, List.length_cons, List.length_nil, List.nil_append, List.append_assoc, List.cons_append]
  congr 1
end

/-! WHERE ALL BEGINS: the text, the plain form -/
section
variable {sc : Nat × (Nat → Int32)} {W : ri_W} {Q : Option Value → ri_W → Prop}
def txl (B : Nat) : List ri_E := [ri_O 3 [.int 0, .int 0, .ref (B + 1), .ref (B + 3), .int 0], ri_O 0 [.int 3, .ref (B + 2)], ri_I 30 (fun _ => 0), ri_O 0 [.int 1, .ref (B + 4)], ri_I 60 (fun _ => 0)]
theorem i_text : ev sc 53 [.ref W.length] (W ++ [ri_O 3 (ri_df 3)]) Q = Q none (W ++ txl W.length) := by
  have q2 := fun Q (V : ri_W) => i_num (sc := sc) (Q := Q) (W := V) (x1 := 10) (x2 := 3) (N := 30) (by decide) (by decide)
  have q3 := fun Q (V : ri_W) => i_num (sc := sc) (Q := Q) (W := V) (x1 := 60) (x2 := 1) (N := 60) (by decide) (by decide)
  have l2 : (ri_df 3).length = 5 := rfl
  simp (decide := true) only [↓en53, ↓u53_0, ↓u53_1, ↓u53_4, ↓u53_5, ↓u53_6, ↓u53_9, ↓u53_10, ↓u53_11, ↓u53_14, ↓u53_15, ↓u53_18, ↓u53_19, ↓u53_21, ↓u53_22, ↓u53_25, ↓u53_28, ↓u53_29, ↓u53_32, ↓u53_33, ↓u53_35, ↓u53_36, ↓u53_39, ↓u53_42, ↓u53_43, ↓u53_44, ↓u53_47, ↓pf_l, ↓pf_l2, List.length_set, l2, ↓q2, ↓q3, ↓c_v_none]
  congr 1
  simp only [List.length_append, List.length_cons, List.length_nil, List.nil_append, List.append_assoc, List.cons_append]
  congr 1
def now0 : Nat → Int32 := upd (upd (fun _ => 0) 0 6) 1 5
def mol (B : Nat) : List ri_E := [ri_O 5 [.ref (B + 1), .ref (B + 2), .int 0, .int 0, .ref (B + 3), .int 0, .int 0, .int 0, .int 0, .int 0, .int 0], ri_I 1892 now0, ri_I 11352 (fun _ => 0), ri_I 60 (fun _ => 0)]
theorem gf_l {W : ri_W} {ci k : Nat} {fs : List Value} {l : List ri_E} {v : Value} {K : Value → Prop} (hk : fs[k]? = some v) : c_g (ri_gf (W ++ ri_O ci fs :: l) W.length ci k) K = K v := by
  have hg : ri_gO (W ++ ri_O ci fs :: l) W.length = some (ci, fs) := by
    unfold ri_gO
    rw [List.getElem?_append_right (Nat.le_refl _), Nat.sub_self]
    rfl
  unfold ri_gf
  rw [hg]
  simp only [if_true, hk]
  rfl
theorem gI_l {W : ri_W} {e : ri_E} {n k : Nat} {f : Nat → Int32} {l : List ri_E} {K : Nat → (Nat → Int32) → Prop} (hk : k = W.length + 1) : c_I (ri_gI (W ++ e :: ri_I n f :: l) k) K = K n f := by
  have hg : ri_gI (W ++ e :: ri_I n f :: l) k = some (n, f) := by
    unfold ri_gI
    rw [List.getElem?_append_right (by omega), show k - W.length = 1 by omega]
    rfl
  rw [hg]
  rfl
theorem sI_l {W : ri_W} {e e1 e2 : ri_E} {k : Nat} {l : List ri_E} (hk : k = W.length + 1) : (W ++ e :: e1 :: l).set k e2 = W ++ e :: e2 :: l := by
  rw [List.set_append_right _ _ (by omega), show k - W.length = 1 by omega]
  rfl
theorem i_model : ev sc 100 [.ref W.length] (W ++ [ri_O 5 (ri_df 5)]) Q = Q none (W ++ mol W.length) := by
  have l2 : (ri_df 5).length = 11 := rfl
  have c1 : (¬ (1892 : Int32) < 0 ∧ (1892 : Int32).toNatClampNeg ≤ 100000) = True := eq_true (by decide)
  have c2 : (¬ (11352 : Int32) < 0 ∧ (11352 : Int32).toNatClampNeg ≤ 100000) = True := eq_true (by decide)
  have c3 : (¬ (60 : Int32) < 0 ∧ (60 : Int32).toNatClampNeg ≤ 100000) = True := eq_true (by decide)
  have hW : ∀ (e : ri_E), (W ++ [e]).length = W.length + 1 := fun e => by simp
  have hW2 : ∀ (e : ri_E) (e2 : ri_E), (W ++ e :: ([] ++ [e2])).length = W.length + 2 := fun e e2 => by simp
  have hW3 : ∀ (e : ri_E) (e2 e3 : ri_E), (W ++ e :: (([] ++ [e2]) ++ [e3])).length = W.length + 3 := fun e e2 e3 => by simp
  simp (decide := true) only [↓en100, ↓u100_0, ↓u100_1, ↓u100_4, ↓u100_5, ↓u100_8, c1, if_true, ↓u100_10, ↓pf_l2 (ci := 5) (k := 0) (fs := ri_df 5) (by decide), ↓u100_13, ↓u100_14, ↓u100_17, c2, ↓u100_19, ↓pf_l2 (ci := 5) (k := 1), List.length_set, l2, ↓u100_22, ↓u100_23, ↓u100_25, c3, ↓u100_27, ↓pf_l2 (ci := 5) (k := 4), hW, hW2, hW3, ↓u100_30]
  have g1 : ∀ v2 v3, ((((ri_df 5).set 0 (.ref (W.length + 1))).set 1 v2).set 4 v3)[0]? = some (.ref (W.length + 1)) := fun v2 v3 => rfl
  have e1 : ∀ e e1 e2 e3, W ++ e :: ((([] ++ [e1]) ++ [e2]) ++ [e3]) = W ++ e :: e1 :: [e2, e3] := fun e e1 e2 e3 => rfl
  have n1 : (0 : Int32).toNatClampNeg = 0 := rfl
  have n2 : (1 : Int32).toNatClampNeg = 1 := rfl
  have n3 : ri_in 0 (1892 : Int32).toNatClampNeg = true := by decide
  have n4 : ri_in 1 (1892 : Int32).toNatClampNeg = true := by decide
  rw [e1]
  simp only [↓u100_31, ↓gf_l (g1 _ _), ↓u100_34, ↓u100_35, ↓u100_37, ↓gI_l (k := W.length + 1) rfl, n1, n2, n3, n4, if_true, sI_l (k := W.length + 1) rfl, ↓u100_38, ↓u100_39, ↓u100_42, ↓u100_43, ↓u100_44, ↓u100_45]
  rfl
end

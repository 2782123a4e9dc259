def F1 : List Value := [.ref 1, .ref 22, .ref 43, .int 0, .ref 64, .int 0, .int 0, .null]
def U1 : ri_W := ri_O 4 F1 :: (stl 1 ++ stl 22 ++ stl 43)
theorem stl_len {B : Nat} : (stl B).length = 21 := by
  unfold stl
  rw [List.length_map, List.length_range]
theorem U1_len : U1.length = 64 := by
  unfold U1
  simp only [List.length_cons, List.length_append, stl_len]
section
variable {sc : Nat × (Nat → Int32)} {Q : Option Value → ri_W → Prop}
theorem i_cyc1 : ev sc 53 [.ref ([] : ri_W).length] (([] : ri_W) ++ [ri_O 4 (ri_df 4)]) Q = rv sc 53 52 [(0, .ref 0), (1, .int 0)] [] (U1 ++ [ri_S 4 (fun _ => none)]) Q := by
  have l2 : (ri_df 4).length = 8 := rfl
  have c1 : (¬ (4 : Int32) < 0 ∧ (4 : Int32).toNatClampNeg ≤ 100000) = True := eq_true (by decide)
  have n1 : (4 : Int32).toNatClampNeg = 4 := rfl
  have fin : ([] : ri_W) ++ ri_O 4 (((((ri_df 4).set 0 (.ref 1)).set 1 (.ref 22)).set 2 (.ref 43)).set 3 (.int 0) |>.set 4 (.ref 64)) :: (((([] ++ stl 1) ++ stl 22) ++ stl 43) ++ [ri_S 4 (fun _ => none)]) = U1 ++ [ri_S 4 (fun _ => none)] := rfl
  rw [← fin]
  simp (decide := true) only [↓en53, ↓u53_0, ↓u53_1, ↓u53_4, ↓u53_5, ↓u53_8, ↓u53_9, ↓u53_12, ↓u53_15, ↓u53_16, ↓u53_19, ↓u53_20, ↓u53_23, ↓u53_26, ↓u53_27, ↓u53_30, ↓u53_31, ↓u53_34, ↓u53_37, ↓u53_38, ↓u53_39_b0, ↓u53_39_b1, ↓u53_42, ↓u53_43, ↓u53_44, ↓u53_47, ↓u53_50, ↓u53_51, ↓u53_53, ↓u53_54, ↓u53_57, ↓u53_58, ↓u53_80, ↓u53_61, ↓u53_81, ↓u53_62, ↓u53_82, ↓u53_65, ↓u53_85, ↓u53_66, ↓u53_86, ↓u53_69, ↓u53_87, ↓u53_70, ↓u53_90, ↓u53_73, ↓u53_91, ↓u53_74, ↓u53_94, ↓u53_77, ↓u53_95, ↓u53_98, ↓u53_101, ↓i_state, ↓pf_l, ↓pf_l2, List.length_set, l2, c1, if_true, ↓c_v_none, n1]
  simp only [List.length_append, List.length_cons, List.length_nil, List.nil_append, stl_len, Nat.reduceAdd, List.cons_append, List.append_assoc]
theorem gO_l {W : ri_W} {ci : Nat} {fs : List Value} {l : List ri_E} {P : Prop} : c_o (ri_gO (W ++ ri_O ci fs :: l) W.length) ci P = P := by
  have hg : ri_gO (W ++ ri_O ci fs :: l) W.length = some (ci, fs) := by
    unfold ri_gO
    rw [List.getElem?_append_right (Nat.le_refl _), Nat.sub_self]
    rfl
  rw [hg, c_o_some]
theorem gO_s {W : ri_W} {P : Prop} : c_o (ri_gO (W ++ stl W.length) W.length) 2 P = P := gO_l (W := W)
theorem i_hist {i : Nat} {F : Nat → Option Nat} {l : List ri_E} (hi : i < 4) : rv sc 53 52 [(0, .ref 0), (1, .int (nI i))] [] (U1 ++ ri_S 4 F :: l) Q = rv sc 53 52 [(0, .ref 0), (1, .int (nI (i + 1)))] [] (U1 ++ ri_S 4 (va_up F i (some (65 + l.length))) :: (l ++ stl (65 + l.length))) Q := by
  have g4 : ∀ (X : ri_W) (K : Value → Prop), c_g (ri_gf (U1 ++ X) 0 4 4) K = K (.ref 64) := fun X K => rfl
  have gS : ∀ (X : ri_W) (K : Nat → (Nat → Option Nat) → Prop), c_S (ri_gS ((U1 ++ ri_S 4 F :: l) ++ X) 64) K = K 4 F := fun X K => by
    have hg : ri_gS ((U1 ++ ri_S 4 F :: l) ++ X) 64 = some (4, F) := by
      unfold ri_gS
      rw [List.append_assoc, List.getElem?_append_right (by rw [U1_len]; exact Nat.le_refl _), U1_len]
      rfl
    rw [hg]
    rfl
  have gN : ∀ (K : Nat → Prop), c_N (ri_gN (U1 ++ ri_S 4 F :: l) 64) K = K 4 := fun K => by
    have hg : ri_gN (U1 ++ ri_S 4 F :: l) 64 = some 4 := by
      unfold ri_gN
      rw [List.getElem?_append_right (by rw [U1_len]; exact Nat.le_refl _), U1_len]
      rfl
    rw [hg]
    rfl
  have sS : ∀ (X : ri_W) (e : ri_E), ((U1 ++ ri_S 4 F :: l) ++ X).set 64 e = U1 ++ e :: (l ++ X) := fun X e => by
    rw [List.append_assoc, List.set_append_right _ _ (by rw [U1_len]; exact Nat.le_refl _), U1_len]
    rfl
  have k1 : ¬ Int32.ofNat 4 ≤ nI i := nI_ge (b := 4) hi (by decide)
  have hin : ri_in (nI i) 4 = true := nAt hi (by decide)
  have hV : (U1 ++ ri_S 4 F :: l).length = 65 + l.length := by
    rw [List.length_append, U1_len, List.length_cons]
    omega
  have hc := nI_clamp (show i < 2 ^ 31 by omega)
  rw [u53_52]
  simp only [↓u53_53, ↓u53_54, ↓u53_57, ↓u53_58, ↓u53_61, ↓u53_62, ↓u53_65, ↓u53_66, ↓u53_69, ↓u53_70, ↓u53_73, ↓u53_74, ↓u53_77, g4, gN, k1, if_false, ↓i_state, ↓c_v_none, ↓gS, ↓gO_s, hin, if_true, sS, hc, hV, nI_1]
/-- all that new CycleTimetable() leaves -/
def W1 : ri_W := ri_O 4 [.ref 1, .ref 22, .ref 43, .int 0, .ref 64, .int 0, .int 0, .ref 149] :: ((stl 1 ++ stl 22 ++ stl 43) ++ ri_S 4 hist_f :: ((((([] ++ stl 65) ++ stl 86) ++ stl 107) ++ stl 128)) ++ txl 149)
theorem i_cyc : ev sc 53 [.ref ([] : ri_W).length] (([] : ri_W) ++ [ri_O 4 (ri_df 4)]) Q = Q none W1 := by
  have e0 : (0 : Int32) = nI 0 := rfl
  rw [i_cyc1, e0, i_hist (by decide), i_hist (by decide), i_hist (by decide), i_hist (by decide)]
  simp only [List.length_append, List.length_nil, stl_len, Nat.reduceAdd, Nat.add_zero]
  have fin : U1 ++ ri_S 4 (va_up (va_up (va_up (va_up (fun _ => none) 0 (some 65)) 1 (some 86)) 2 (some 107)) 3 (some 128)) :: (((([] ++ stl 65) ++ stl 86) ++ stl 107) ++ stl 128) = ([] : ri_W) ++ ri_O 4 F1 :: ((stl 1 ++ stl 22 ++ stl 43) ++ ri_S 4 hist_f :: (((([] ++ stl 65) ++ stl 86) ++ stl 107) ++ stl 128)) := rfl
  rw [fin]
  generalize hL : (stl 1 ++ stl 22 ++ stl 43) ++ ri_S 4 hist_f :: (((([] ++ stl 65) ++ stl 86) ++ stl 107) ++ stl 128) = L
  have hLl : L.length = 148 := by
    rw [← hL]
    simp only [List.length_append, List.length_cons, List.length_nil, stl_len]
  have g4 : ∀ (K : Value → Prop), c_g (ri_gf (([] : ri_W) ++ ri_O 4 F1 :: L) 0 4 4) K = K (.ref 64) := fun K => rfl
  have gN : ∀ (K : Nat → Prop), c_N (ri_gN (([] : ri_W) ++ ri_O 4 F1 :: L) 64) K = K 4 := fun K => by
    rw [← hL]
    rfl
  have k1 : Int32.ofNat 4 ≤ nI 4 := by decide
  have p5 : ∀ (fs : List Value) (v : Value) (l : List ri_E) (k : Nat) (hk : k < fs.length) (K : ri_W → Prop), c_p (ri_pf (([] : ri_W) ++ ri_O 4 fs :: l) 0 4 k v) K = K (([] : ri_W) ++ ri_O 4 (fs.set k v) :: l) := fun fs v l k hk K => pf_l (W := []) hk
  have p7 : ∀ (fs : List Value) (v : Value) (l X : List ri_E) (k : Nat) (hk : k < fs.length) (K : ri_W → Prop), c_p (ri_pf ((([] : ri_W) ++ ri_O 4 fs :: l) ++ X) 0 4 k v) K = K (([] : ri_W) ++ ri_O 4 (fs.set k v) :: (l ++ X)) := fun fs v l X k hk K => pf_l2 (W := []) hk
  have l2 : F1.length = 8 := rfl
  have q5 := fun (K : ri_W → Prop) => p5 F1 (.int 0) L 5 (by decide) K
  have q6 := fun (K : ri_W → Prop) => p5 (F1.set 5 (.int 0)) (.int 0) L 6 (by decide) K
  have q7 := fun (v : Value) (X : ri_W) (K : ri_W → Prop) => p7 ((F1.set 5 (.int 0)).set 6 (.int 0)) v L X 7 (by decide) K
  rw [u53_52]
  simp (decide := true) only [↓u53_53, ↓u53_54, ↓u53_57, ↓u53_58, ↓u53_80, ↓u53_81, ↓u53_82, ↓u53_85, ↓u53_86, ↓u53_87, ↓u53_90, ↓u53_91, ↓u53_94, ↓u53_95, ↓u53_98, ↓u53_101, g4, gN, k1, if_true, ↓q5, ↓q6, ↓q7, ↓i_text, ↓c_v_none]
  have hl2 : ∀ (fs : List Value), (([] : ri_W) ++ ri_O 4 fs :: L).length = 149 := fun fs => by
    rw [List.length_append, List.length_cons, hLl]
    rfl
  rw [hl2, ← hL]
  rfl
end

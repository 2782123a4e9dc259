/-! WHERE ALL BEGINS: the class -/
def F1 : List Value := [.ref 1, .ref 22, .ref 43, .int 0, .ref 64, .int 0, .int 0, .null]
def U1 : ri_W := ri_O 4 F1 :: (stl 1 ++ stl 22 ++ stl 43)
theorem stl_len {B : Nat} : (stl B).length = 21 := by
  unfold stl
  rw [List.length_map, List.length_range]
theorem U1_len : U1.length = 64 := by
  unfold U1
  simp only [List.length_cons, List.length_append, stl_len]
section
variable {sc : Nat × (Nat → Int32)} {Q : Option Value → ri_W → Prop}
theorem i_cyc1 : ev sc 60 [.ref ([] : ri_W).length] (([] : ri_W) ++ [ri_O 4 (ri_df 4)]) Q = rv sc 60 52 [(0, .ref 0), (1, .int 0)] [] (U1 ++ [ri_S 4 (fun _ => none)]) Q := by
  have l2 : (ri_df 4).length = 8 := rfl
  have c1 : (¬ (4 : Int32) < 0 ∧ (4 : Int32).toNatClampNeg ≤ 100000) = True := eq_true (by decide)
  have n1 : (4 : Int32).toNatClampNeg = 4 := rfl
  have fin : ([] : ri_W) ++ ri_O 4 (((((ri_df 4).set 0 (.ref 1)).set 1 (.ref 22)).set 2 (.ref 43)).set 3 (.int 0) |>.set 4 (.ref 64)) :: (((([] ++ stl 1) ++ stl 22) ++ stl 43) ++ [ri_S 4 (fun _ => none)]) = U1 ++ [ri_S 4 (fun _ => none)] := rfl
  rw [← fin]
  simp (decide := true) only [↓en60, ↓u60_0, ↓u60_1, ↓u60_4, ↓u60_5, ↓u60_8, ↓u60_9, ↓u60_12, ↓u60_15, ↓u60_16, ↓u60_19, ↓u60_20, ↓u60_23, ↓u60_26, ↓u60_27, ↓u60_30, ↓u60_31, ↓u60_34, ↓u60_37, ↓u60_38, ↓u60_39_b0, ↓u60_39_b1, ↓u60_42, ↓u60_43, ↓u60_44, ↓u60_47, ↓u60_50, ↓u60_51, ↓u60_53, ↓u60_54, ↓u60_57, ↓u60_58, ↓u60_80, ↓u60_61, ↓u60_81, ↓u60_62, ↓u60_82, ↓u60_65, ↓u60_85, ↓u60_66, ↓u60_86, ↓u60_69, ↓u60_87, ↓u60_70, ↓u60_90, ↓u60_73, ↓u60_91, ↓u60_74, ↓u60_94, ↓u60_77, ↓u60_95, ↓u60_98, ↓u60_101, ↓i_state, ↓pf_l, ↓pf_l2, List.length_set, l2, c1, if_true, ↓c_v_none, n1]
  simp only [List.length_append, List.length_cons, List.length_nil, List.nil_append, stl_len, Nat.reduceAdd, List.cons_append, List.append_assoc]
theorem gO_l {W : ri_W} {ci : Nat} {fs : List Value} {l : List ri_E} {P : Prop} : c_o (ri_gO (W ++ ri_O ci fs :: l) W.length) ci P = P := by
  have hg : ri_gO (W ++ ri_O ci fs :: l) W.length = some (ci, fs) := by
    unfold ri_gO
    rw [List.getElem?_append_right (Nat.le_refl _), Nat.sub_self]
    rfl
  rw [hg, c_o_some]
theorem gO_s {W : ri_W} {P : Prop} : c_o (ri_gO (W ++ stl W.length) W.length) 2 P = P := gO_l (W := W)
theorem i_hist {i : Nat} {F : Nat → Option Nat} {l : List ri_E} (hi : i < 4) : rv sc 60 52 [(0, .ref 0), (1, .int (nI i))] [] (U1 ++ ri_S 4 F :: l) Q = rv sc 60 52 [(0, .ref 0), (1, .int (nI (i + 1)))] [] (U1 ++ ri_S 4 (va_up F i (some (65 + l.length))) :: (l ++ stl (65 + l.length))) Q := by
  have g4 : ∀ (X : ri_W) (K : Value → Prop), c_g (ri_gf (U1 ++ X) 0 4 4) K = K (.ref 64) := fun X K => rfl
  have gS : ∀ (X : ri_W) (K : Nat → (Nat → Option Nat) → Prop), c_S (ri_gS ((U1 ++ ri_S 4 F :: l) ++ X) 64) K = K 4 F := fun X K => by
    have hg : ri_gS ((U1 ++ ri_S 4 F :: l) ++ X) 64 = some (4, F) := by
      unfold ri_gS
      rw [List.append_assoc, List.getElem?_append_right (by rw [U1_len]; exact Nat.le_refl _), U1_len]
      rfl
    rw [hg]
    rfl
  have gN : ∀ (K : Nat → Prop), c_N (ri_gN (U1 ++ ri_S 4 F :: l) 64) K = K 4 := fun K => by
    have hg : ri_gN (U1 ++ ri_S 4 F :: l) 64 = some 4 := by
      unfold ri_gN
      rw [List.getElem?_append_right (by rw [U1_len]; exact Nat.le_refl _), U1_len]
      rfl
    rw [hg]
    rfl
  have sS : ∀ (X : ri_W) (e : ri_E), ((U1 ++ ri_S 4 F :: l) ++ X).set 64 e = U1 ++ e :: (l ++ X) := fun X e => by
    rw [List.append_assoc, List.set_append_right _ _ (by rw [U1_len]; exact Nat.le_refl _), U1_len]
    rfl
  have k1 : ¬ Int32.ofNat 4 ≤ nI i := nI_ge (b := 4) hi (by decide)
  have hin : ri_in (nI i) 4 = true := nAt hi (by decide)
  have hV : (U1 ++ ri_S 4 F :: l).length = 65 + l.length := by
    rw [List.length_append, U1_len, List.length_cons]
    omega
  have hc := nI_clamp (show i < 2 ^ 31 by omega)
  rw [u60_52]
  simp only [↓u60_53, ↓u60_54, ↓u60_57, ↓u60_58, ↓u60_61, ↓u60_62, ↓u60_65, ↓u60_66, ↓u60_69, ↓u60_70, ↓u60_73, ↓u60_74, ↓u60_77, g4, gN, k1, if_false, ↓i_state, ↓c_v_none, ↓gS, ↓gO_s, hin, if_true, sS, hc, hV, nI_1]
/-- all that new CycleTimetable() leaves -/
def W1 : ri_W := ri_O 4 [.ref 1, .ref 22, .ref 43, .int 0, .ref 64, .int 0, .int 0, .ref 149] :: ((stl 1 ++ stl 22 ++ stl 43) ++ ri_S 4 hist_f :: ((((([] ++ stl 65) ++ stl 86) ++ stl 107) ++ stl 128)) ++ txl 149)
theorem i_cyc : ev sc 60 [.ref ([] : ri_W).length] (([] : ri_W) ++ [ri_O 4 (ri_df 4)]) Q = Q none W1 := by
  have e0 : (0 : Int32) = nI 0 := rfl
  rw [i_cyc1, e0, i_hist (by decide), i_hist (by decide), i_hist (by decide), i_hist (by decide)]
  simp only [List.length_append, List.length_nil, stl_len, Nat.reduceAdd, Nat.add_zero]
  have fin : U1 ++ ri_S 4 (va_up (va_up (va_up (va_up (fun _ => none) 0 (some 65)) 1 (some 86)) 2 (some 107)) 3 (some 128)) :: (((([] ++ stl 65) ++ stl 86) ++ stl 107) ++ stl 128) = ([] : ri_W) ++ ri_O 4 F1 :: ((stl 1 ++ stl 22 ++ stl 43) ++ ri_S 4 hist_f :: (((([] ++ stl 65) ++ stl 86) ++ stl 107) ++ stl 128)) := rfl
  rw [fin]
  generalize hL : (stl 1 ++ stl 22 ++ stl 43) ++ ri_S 4 hist_f :: (((([] ++ stl 65) ++ stl 86) ++ stl 107) ++ stl 128) = L
  have hLl : L.length = 148 := by
    rw [← hL]
    simp only [List.length_append, List.length_cons, List.length_nil, stl_len]
  have g4 : ∀ (K : Value → Prop), c_g (ri_gf (([] : ri_W) ++ ri_O 4 F1 :: L) 0 4 4) K = K (.ref 64) := fun K => rfl
  have gN : ∀ (K : Nat → Prop), c_N (ri_gN (([] : ri_W) ++ ri_O 4 F1 :: L) 64) K = K 4 := fun K => by
    rw [← hL]
    rfl
  have k1 : Int32.ofNat 4 ≤ nI 4 := by decide
  have p5 : ∀ (fs : List Value) (v : Value) (l : List ri_E) (k : Nat) (hk : k < fs.length) (K : ri_W → Prop), c_p (ri_pf (([] : ri_W) ++ ri_O 4 fs :: l) 0 4 k v) K = K (([] : ri_W) ++ ri_O 4 (fs.set k v) :: l) := fun fs v l k hk K => pf_l (W := []) hk
  have p7 : ∀ (fs : List Value) (v : Value) (l X : List ri_E) (k : Nat) (hk : k < fs.length) (K : ri_W → Prop), c_p (ri_pf ((([] : ri_W) ++ ri_O 4 fs :: l) ++ X) 0 4 k v) K = K (([] : ri_W) ++ ri_O 4 (fs.set k v) :: (l ++ X)) := fun fs v l X k hk K => pf_l2 (W := []) hk
  have l2 : F1.length = 8 := rfl
  have q5 := fun (K : ri_W → Prop) => p5 F1 (.int 0) L 5 (by decide) K
  have q6 := fun (K : ri_W → Prop) => p5 (F1.set 5 (.int 0)) (.int 0) L 6 (by decide) K
  have q7 := fun (v : Value) (X : ri_W) (K : ri_W → Prop) => p7 ((F1.set 5 (.int 0)).set 6 (.int 0)) v L X 7 (by decide) K
  rw [u60_52]
  simp (decide := true) only [↓u60_53, ↓u60_54, ↓u60_57, ↓u60_58, ↓u60_80, ↓u60_81, ↓u60_82, ↓u60_85, ↓u60_86, ↓u60_87, ↓u60_90, ↓u60_91, ↓u60_94, ↓u60_95, ↓u60_98, ↓u60_101, g4, gN, k1, if_true, ↓q5, ↓q6, ↓q7, ↓i_text, ↓c_v_none]
  have hl2 : ∀ (fs : List Value), (([] : ri_W) ++ ri_O 4 fs :: L).length = 149 := fun fs => by
    rw [List.length_append, List.length_cons, hLl]
    rfl
  rw [hl2, ← hL]
  rfl
/-- the world in which the calls begin -/
def g00 : SG := (fun _ => s00, fun _ => 0, (fun _ => 0, fun _ _ => 0), (fun _ => 0, fun k => if k = 0 then now0 else fun _ => 0))
theorem W1_len : W1.length = 154 := by
  unfold W1 txl
  simp only [List.length_append, List.length_cons, List.length_nil, stl_len]
theorem W0_eq : W1 ++ mol 154 = Wd g00 := by
  have h : ∀ j, j < 7 → (List.range 21).map (fun c => ce g00 (bs j + c)) = stl (bs j) := fun j hj => by
    unfold stl
    apply List.map_congr_left
    intro c hc
    exact ce_st hj (List.mem_range.mp hc)
  have e : List.range 158 = 0 :: ((((List.range 21).map (fun c => bs 0 + c) ++ (List.range 21).map (fun c => bs 1 + c)) ++ (List.range 21).map (fun c => bs 2 + c)) ++ 64 :: (((([] ++ (List.range 21).map (fun c => bs 3 + c)) ++ (List.range 21).map (fun c => bs 4 + c)) ++ (List.range 21).map (fun c => bs 5 + c)) ++ (List.range 21).map (fun c => bs 6 + c)) ++ [149, 150, 151, 152, 153]) ++ [154, 155, 156, 157] := by decide +kernel
  unfold Wd
  rw [e]
  simp only [List.map_append, List.map_cons, List.map_nil, List.map_map, Function.comp_def, h 0 (by decide), h 1 (by decide), h 2 (by decide), h 3 (by decide), h 4 (by decide), h 5 (by decide), h 6 (by decide)]
  rfl
theorem bt6_0 {m : Nat} : bt6 0 m = false := by
  unfold bt6
  exact BitVec.getLsbD_zero
theorem R00 : R g00 := by
  have hx : ∀ c r m, hX s00 c r m = false := fun c r m => bt6_0
  have hc : ∀ c m, hC s00 c m = false := fun c m => bt6_0
  have ht : ∀ c m, hT s00 c m = false := fun c m => bt6_0
  have hr : ∀ c m, hR s00 c m = false := fun c m => bt6_0
  have hh : ∀ c m, hH s00 c m = false := fun c m => bt6_0
  have hb : ∀ c m, hB s00 c m = false := fun c m => bt6_0
  have hh0 : ∀ d, hol s00 d = false := fun d => bt6_0
  have hnf : nf s00 := ⟨fun i hi => by show (if i = 0 then (6 : Int32) else if i = 1 then 5 else 0) = 0; rw [if_neg (by omega), if_neg (by omega)], fun i q _ => rfl, fun i q _ => rfl⟩
  have hC0 : nC s00 = 0 := rfl
  have hinv : inv s00 := by
    refine ⟨hnf, by unfold okN; decide, fun c h => absurd h (by rw [hC0]; omega), fun c h => absurd h (by rw [hC0]; omega), ⟨?_, ?_, ?_, ?_, ?_, ?_, ?_, ?_, ?_⟩, fun c h => absurd h (by rw [hC0]; omega), ?_, ?_, ?_⟩
    · intro c r m _ h
      rw [hx] at h
      exact absurd h (by decide)
    · intro c r r' m _ _ h
      rw [hx] at h
      exact absurd h (by decide)
    · intro c m
      simp [hx, hc]
    · intro t m
      simp [ht, hc]
    · intro c c' m h
      rw [hc] at h
      exact absurd h (by decide)
    · intro r m _
      simp [hr, hx]
    · intro c c' r m _ h
      rw [hx] at h
      exact absurd h (by decide)
    · intro k m
      simp [hh, hc]
    · intro c c' k m h
      rw [hc] at h
      exact absurd h (by decide)
    · intro c d
      rw [ct_zero (fun k _ => hc _ _)]
      omega
    · intro t m h
      rw [hb] at h
      exact absurd h (by decide)
    · intro d h
      rw [hh0] at h
      exact absurd h (by decide)
  refine ⟨fun j _ => hnf, hinv, ?_, ⟨0, 0, by decide, by decide, rfl, rfl, rfl, fun i hi => absurd hi (by omega)⟩, ⟨false, rfl, rfl, fun h => absurd h (by decide)⟩, ⟨⟨0, by decide, rfl, rfl⟩, rfl⟩⟩
  show now0 = mdl s00
  funext q
  have hrm : ∀ c m, rmS s00 c m = none := fun c m => by
    rw [rm_no hinv.2.2.2.2.1.2.1 hinv.2.2.2.2.1.2.2.1]
    exact hc c m
  unfold mdl now0 upd
  simp only [hrm, hb, hh0]
  by_cases q0 : q = 0
  · subst q0
    rfl
  · by_cases q1 : q = 1
    · subst q1
      rfl
    · have hs1 : s00.1 q = 0 := by show (if q = 0 then (6 : Int32) else if q = 1 then 5 else 0) = 0; rw [if_neg q0, if_neg q1]
      simp only [q0, q1, if_false, hs1]
      split
      · rfl
      · split
        · rfl
        · split
          · rfl
          · split
            · rfl
            · split
              · rfl
              · split
                · rfl
                · split <;> rfl
theorem law_begin {L : Nat} {xs : Nat → Int32} {Q : Option Value → ri_W → Prop} : rv (L, xs) 179 0 [(0, .retAddr 0)] [] [] Q = rv (L, xs) 179 18 [(0, .retAddr 0), (1, .ref 0), (2, .ref 154), (3, .int 0)] [] (Wd g00) Q := by
  simp only [↓u179_0, ↓u179_3, ↓u179_4, ↓i_cyc, ↓c_v_none, ↓u179_7, ↓u179_8, ↓u179_11, ↓u179_12, ↓i_model, ↓u179_15, ↓u179_16, ↓u179_17]
  rw [W1_len, W0_eq]
  rfl
end

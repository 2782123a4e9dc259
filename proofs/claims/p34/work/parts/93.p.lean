/-! WHERE ALL BEGINS: the world of a new object -/
section
variable {sc : Nat × (Nat → Int32)} {s s' : SV} {g : SG} {fs n j : Nat} {w : ri_W} {Q : Option Value → ri_W → Prop}
def g00 : SG := (fun _ => s00, fun _ => 0, (fun _ => 0, fun _ _ => 0), (fun _ => 0, fun _ _ => 0))
theorem W0_eq : W1 = Wd g00 := by
  have h : ∀ j, j < 7 → (List.range 21).map (fun c => ce g00 (bs j + c)) = stl (bs j) := fun j hj => by
    unfold stl
    apply List.map_congr_left
    intro c hc
    exact ce_st hj (List.mem_range.mp hc)
  have e : List.range 154 = 0 :: ((((List.range 21).map (fun c => bs 0 + c) ++ (List.range 21).map (fun c => bs 1 + c)) ++ (List.range 21).map (fun c => bs 2 + c)) ++ 64 :: (((([] ++ (List.range 21).map (fun c => bs 3 + c)) ++ (List.range 21).map (fun c => bs 4 + c)) ++ (List.range 21).map (fun c => bs 5 + c)) ++ (List.range 21).map (fun c => bs 6 + c)) ++ [149, 150, 151, 152, 153]) := by decide +kernel
  unfold Wd
  rw [e]
  simp only [List.map_append, List.map_cons, List.map_nil, List.map_map, Function.comp_def, h 0 (by decide), h 1 (by decide), h 2 (by decide), h 3 (by decide), h 4 (by decide), h 5 (by decide), h 6 (by decide)]
  rfl
theorem bt6_0 {m : Nat} : bt6 0 m = false := by
  unfold bt6
  exact BitVec.getLsbD_zero
def RwI (g : SG) : Prop := ∃ fs n, Rw g fs n ∧ inv2 (g.1 0)
theorem R00 : RwI g00 := by
  have hx : ∀ c r m, hX s00 c r m = false := fun c r m => bt6_0
  have hc : ∀ c m, hC s00 c m = false := fun c m => bt6_0
  have ht : ∀ c m, hT s00 c m = false := fun c m => bt6_0
  have hr : ∀ c m, hR s00 c m = false := fun c m => bt6_0
  have hh : ∀ c m, hH s00 c m = false := fun c m => bt6_0
  have hb : ∀ c m, hB s00 c m = false := fun c m => bt6_0
  have hh0 : ∀ d, hol s00 d = false := fun d => bt6_0
  have hnf : nf s00 := ⟨fun i hi => by show (if i = 0 then (6 : Int32) else if i = 1 then 5 else 0) = 0; rw [if_neg (by omega), if_neg (by omega)], fun i q _ => rfl, fun i q _ => rfl⟩
  have hC0 : nC s00 = 0 := rfl
  have hT0 : nT s00 = 0 := rfl
  have hinv : inv s00 := by
    refine ⟨hnf, by unfold okN; decide, fun c h => absurd h (by rw [hC0]; omega), fun c h => absurd h (by rw [hC0]; omega), ⟨?_, ?_, ?_, ?_, ?_, ?_, ?_, ?_, ?_⟩, fun c h => absurd h (by rw [hC0]; omega), ?_, ?_, ?_⟩
    · intro c r m _ h
      rw [hx] at h
      exact absurd h (by decide)
    · intro c r r' m _ _ h
      rw [hx] at h
      exact absurd h (by decide)
    · intro c m
      simp [hx, hc]
    · intro t m
      simp [ht, hc]
    · intro c c' m h
      rw [hc] at h
      exact absurd h (by decide)
    · intro r m _
      simp [hr, hx]
    · intro c c' r m _ h
      rw [hx] at h
      exact absurd h (by decide)
    · intro k m
      simp [hh, hc]
    · intro c c' k m h
      rw [hc] at h
      exact absurd h (by decide)
    · intro c d
      rw [ct_zero (fun k _ => hc _ _)]
      omega
    · intro t m h
      rw [hb] at h
      exact absurd h (by decide)
    · intro d h
      rw [hh0] at h
      exact absurd h (by decide)
  refine ⟨0, 0, ⟨fun j _ => hnf, by decide, by decide, rfl, rfl⟩, hinv, fun t h => absurd h (by show ¬ t < nT s00; rw [hT0]; omega), fun c r m _ h => ?_⟩
  have h2 : hX s00 c r m = true := h
  rw [hx] at h2
  exact absurd h2 (by decide)
/-- a call of an act leads from such a world to such a world -/
theorem stq_run {y : Nat} {as : List Value} (h : Stq sc y as (g.1 0)) (hw : Rw g fs n) (hJ : inv2 (g.1 0)) : ∃ u g', RwI g' ∧ ∀ Q, ev sc y as (Wd g) Q = Q (some (.int u)) (Wd g') := by
  obtain ⟨u, o, ok, f⟩ := h
  obtain ⟨t, ht, hq⟩ := f g fs n hw rfl
  obtain ⟨fs', n', h1, h2, h3⟩ := Rw_res hw ht ok
  refine ⟨u, _, ⟨fs', n', h1, ?_⟩, hq⟩
  cases o with
  | none => rw [(h3 rfl).1]; exact hJ
  | some s' => rw [(h2 s' rfl).1]; exact ok.2
theorem law_begin {T : Int32} (hT : (if (Int32.ofNat sc.1 / 3 : Int32) < 36 then (Int32.ofNat sc.1 / 3 : Int32) else 36) = T) : ∃ g, RwI g ∧ ∀ Q, rv sc 100 0 [(0, .retAddr 0)] [] [] Q = rv sc 100 49 [(0, .retAddr 0), (1, .ref 0), (2, .int T), (3, .int 0)] [] (Wd g) Q := by
  obtain ⟨fs, n, h1, h2⟩ := R00
  obtain ⟨u1, g1, ⟨fs1', n1, a1, a2⟩, q1⟩ := stq_run (sc := sc) (p_addGroup h2) h1 h2
  obtain ⟨u2, g2, ⟨fs2, n2, b1, b2⟩, q2⟩ := stq_run (sc := sc) (p_addTeacher a2 (a := 9) (b := 3)) a1 a2
  obtain ⟨u3, g3, c1, q3⟩ := stq_run (sc := sc) (p_addRoom b2 (a := 15)) b1 b2
  have hcy := fun Q => i_cyc (sc := sc) (Q := Q)
  rw [W0_eq] at hcy
  have n30 : ((3 : Int32) = 0) = False := eq_false (by decide)
  have h0 : ∀ Q, rv sc 100 0 [(0, .retAddr 0)] [] [] Q = rv sc 100 8 [(0, .retAddr 0), (1, .ref 0)] [] (Wd g00) Q := fun Q => by
    simp only [↓u100_0, ↓u100_3, ↓u100_4, ↓u100_7, ↓hcy, ↓c_v_none]
    rfl
  refine ⟨g3, c1, fun Q => (h0 Q).trans ?_⟩
  subst hT
  simp only [↓u100_8, ↓u100_9, ↓u100_12, ↓u100_13, ↓u100_14, ↓u100_16, ↓u100_17, ↓u100_20, ↓u100_21, ↓u100_22, ↓u100_24, ↓u100_27, ↓u100_28, ↓c_v_none, ↓c_v_some, ↓m_o, ↓q1, ↓q2, ↓q3]
  by_cases e : (Int32.ofNat sc.1 / 3 : Int32) < 36
  · have e2 : ¬ (36 : Int32) ≤ Int32.ofNat sc.1 / 3 := Int32.not_le.mpr e
    simp only [↓u100_29, ↓u100_30, ↓u100_31, ↓u100_32, ↓u100_34, ↓u100_37, ↓u100_38, ↓u100_39, ↓u100_40, ↓u100_41, ↓u100_44, ↓u100_46, ↓u100_47, ↓u100_48, n30, e, e2, if_true, if_false]
  · have e2 : (36 : Int32) ≤ Int32.ofNat sc.1 / 3 := Int32.not_lt.mp e
    simp only [↓u100_29, ↓u100_30, ↓u100_31, ↓u100_32, ↓u100_34, ↓u100_37, ↓u100_38, ↓u100_39, ↓u100_40, ↓u100_41, ↓u100_44, ↓u100_46, ↓u100_47, ↓u100_48, n30, e, e2, if_true, if_false]
end

def bN : Nat → Nat
  | 0 => 16
  | 1 => 6
  | 2 => 120
  | _ => 0
def bJ : Nat → Nat
  | 0 => 7
  | 1 => 8
  | 2 => 120
  | 3 => 20
  | 4 => 8
  | 5 => 6
  | 6 => 16
  | _ => 0
/-- what lies outside of a state's arrays is 0 -/
def nf (s : SV) : Prop := (∀ i, 6 ≤ i → s.1 i = 0) ∧ (∀ i q, bN i ≤ q → s.2.1 i q = 0) ∧ ∀ i q, bJ i ≤ q → s.2.2 i q = 0
theorem gI_J {w : ri_W} {r : Nat} {x : Nat × (Nat → Int64)} (h : ri_gJ w r = some x) : ri_gI w r = none := by
  unfold ri_gJ at h
  unfold ri_gI
  split at h
  · rename_i e
    rw [e]
  · exact absurd h (by simp)
theorem cpy_up {α : Type} {f f2 : Nat → α} {n : Nat} (h : ∀ q, n ≤ q → f q = f2 q) : va_cpy f2 f 0 0 n = f2 := by
  funext q
  unfold va_cpy
  split
  · rw [Nat.sub_zero, Nat.zero_add]
  · exact h q (by omega)
section
variable {sc : Nat × (Nat → Int32)} {g : SG} {i j : Nat} {Q : Option Value → ri_W → Prop}
theorem c_N0 (hj : j < 7) (hi : i < 7) : ev sc 3 [.ref (bs j + 1), .ref (bs i + 1)] (Wd g) Q = Q none (Wd (stS g j (sN (g.1 j) 0 (va_cpy ((g.1 i).2.1 0) ((g.1 j).2.1 0) 0 0 16)))) := by
  rw [s_ncopy (no0 hj) (ni0 hj) (no0 hi) (ni0 hi) (by decide), ns0 hj]
theorem c_N1 (hj : j < 7) (hi : i < 7) : ev sc 3 [.ref (bs j + 3), .ref (bs i + 3)] (Wd g) Q = Q none (Wd (stS g j (sN (g.1 j) 1 (va_cpy ((g.1 i).2.1 1) ((g.1 j).2.1 1) 0 0 6)))) := by
  rw [s_ncopy (no1 hj) (ni1 hj) (no1 hi) (ni1 hi) (by decide), ns1 hj]
theorem c_N2 (hj : j < 7) (hi : i < 7) : ev sc 3 [.ref (bs j + 5), .ref (bs i + 5)] (Wd g) Q = Q none (Wd (stS g j (sN (g.1 j) 2 (va_cpy ((g.1 i).2.1 2) ((g.1 j).2.1 2) 0 0 120)))) := by
  rw [s_ncopy (no2 hj) (ni2 hj) (no2 hi) (ni2 hi) (by decide), ns2 hj]
theorem c_J0 (hj : j < 7) (hi : i < 7) : ev sc 12 [.ref (bs j + 7), .ref (bs i + 7)] (Wd g) Q = Q none (Wd (stS g j (sJ (g.1 j) 0 (va_cpy ((g.1 i).2.2 0) ((g.1 j).2.2 0) 0 0 7)))) := by
  rw [s_jcopy (jo0 hj) (jj0 hj) (jo0 hi) (jj0 hi) (gI_J (jj0 hi)) (by decide), js0 hj]
theorem c_J1 (hj : j < 7) (hi : i < 7) : ev sc 12 [.ref (bs j + 9), .ref (bs i + 9)] (Wd g) Q = Q none (Wd (stS g j (sJ (g.1 j) 1 (va_cpy ((g.1 i).2.2 1) ((g.1 j).2.2 1) 0 0 8)))) := by
  rw [s_jcopy (jo1 hj) (jj1 hj) (jo1 hi) (jj1 hi) (gI_J (jj1 hi)) (by decide), js1 hj]
theorem c_J2 (hj : j < 7) (hi : i < 7) : ev sc 12 [.ref (bs j + 11), .ref (bs i + 11)] (Wd g) Q = Q none (Wd (stS g j (sJ (g.1 j) 2 (va_cpy ((g.1 i).2.2 2) ((g.1 j).2.2 2) 0 0 120)))) := by
  rw [s_jcopy (jo2 hj) (jj2 hj) (jo2 hi) (jj2 hi) (gI_J (jj2 hi)) (by decide), js2 hj]
theorem c_J3 (hj : j < 7) (hi : i < 7) : ev sc 12 [.ref (bs j + 13), .ref (bs i + 13)] (Wd g) Q = Q none (Wd (stS g j (sJ (g.1 j) 3 (va_cpy ((g.1 i).2.2 3) ((g.1 j).2.2 3) 0 0 20)))) := by
  rw [s_jcopy (jo3 hj) (jj3 hj) (jo3 hi) (jj3 hi) (gI_J (jj3 hi)) (by decide), js3 hj]
theorem c_J4 (hj : j < 7) (hi : i < 7) : ev sc 12 [.ref (bs j + 15), .ref (bs i + 15)] (Wd g) Q = Q none (Wd (stS g j (sJ (g.1 j) 4 (va_cpy ((g.1 i).2.2 4) ((g.1 j).2.2 4) 0 0 8)))) := by
  rw [s_jcopy (jo4 hj) (jj4 hj) (jo4 hi) (jj4 hi) (gI_J (jj4 hi)) (by decide), js4 hj]
theorem c_J5 (hj : j < 7) (hi : i < 7) : ev sc 12 [.ref (bs j + 17), .ref (bs i + 17)] (Wd g) Q = Q none (Wd (stS g j (sJ (g.1 j) 5 (va_cpy ((g.1 i).2.2 5) ((g.1 j).2.2 5) 0 0 6)))) := by
  rw [s_jcopy (jo5 hj) (jj5 hj) (jo5 hi) (jj5 hi) (gI_J (jj5 hi)) (by decide), js5 hj]
theorem c_J6 (hj : j < 7) (hi : i < 7) : ev sc 12 [.ref (bs j + 19), .ref (bs i + 19)] (Wd g) Q = Q none (Wd (stS g j (sJ (g.1 j) 6 (va_cpy ((g.1 i).2.2 6) ((g.1 j).2.2 6) 0 0 16)))) := by
  rw [s_jcopy (jo6 hj) (jj6 hj) (jo6 hi) (jj6 hi) (gI_J (jj6 hi)) (by decide), js6 hj]
theorem sS_2 {s : SV} {k : Nat} {v : Int32} : (sS s k v).2 = s.2 := rfl
theorem sN_1 {s : SV} {k : Nat} {v : Nat → Int32} : (sN s k v).1 = s.1 := rfl
theorem sJ_1 {s : SV} {k : Nat} {v : Nat → Int64} : (sJ s k v).1 = s.1 := rfl
theorem sN_22 {s : SV} {k : Nat} {v : Nat → Int32} : (sN s k v).2.2 = s.2.2 := rfl
theorem sJ_21 {s : SV} {k : Nat} {v : Nat → Int64} : (sJ s k v).2.1 = s.2.1 := rfl
theorem sN_ne {s : SV} {k q : Nat} {v : Nat → Int32} (h : q ≠ k) : (sN s k v).2.1 q = s.2.1 q := upF_ne h
theorem sJ_ne {s : SV} {k q : Nat} {v : Nat → Int64} (h : q ≠ k) : (sJ s k v).2.2 q = s.2.2 q := upF_ne h
theorem s_copyFrom (hj : j < 7) (hi : i < 7) (hne : i ≠ j) (h1 : nf (g.1 i)) (h2 : nf (g.1 j)) : ev sc 14 [.ref (bs j), .ref (bs i)] (Wd g) Q = Q none (Wd (stS g j (g.1 i))) := by
  simp only [↓en14, ↓u14_0, ↓u14_1, ↓u14_5, ↓u14_6, ↓u14_7, ↓u14_10, ↓u14_13, ↓u14_14, ↓u14_15, ↓u14_18, ↓u14_21, ↓u14_22, ↓u14_23, ↓u14_26, ↓u14_29, ↓u14_30, ↓u14_31, ↓u14_34, ↓u14_37, ↓u14_38, ↓u14_39, ↓u14_42, ↓u14_45, ↓u14_46, ↓u14_47, ↓u14_50, ↓u14_53, ↓u14_54, ↓u14_57, ↓u14_58, ↓u14_61, ↓u14_64, ↓u14_65, ↓u14_68, ↓u14_69, ↓u14_72, ↓u14_75, ↓u14_76, ↓u14_79, ↓u14_80, ↓u14_83, ↓u14_86, ↓u14_87, ↓u14_90, ↓u14_91, ↓u14_94, ↓u14_97, ↓u14_98, ↓u14_101, ↓u14_102, ↓u14_105, ↓u14_108, ↓u14_109, ↓u14_112, ↓u14_113, ↓u14_116, ↓u14_119, ↓u14_120, ↓u14_123, ↓u14_124, ↓u14_127, ↓u14_130, ↓u14_131, ↓u14_134, ↓u14_135, ↓u14_138, ↓u14_141, ↓u14_142, ↓u14_145, ↓u14_146, ↓u14_149, ↓u14_152, ↓u14_153, ↓u14_156, ↓u14_157, ↓u14_160, ↓u14_163, ↓sf0 hi, ↓sf0 hj, ↓sf1 hi, ↓sf1 hj, ↓sf2 hi, ↓sf2 hj, ↓sf3 hi, ↓sf3 hj, ↓sf4 hi, ↓sf4 hj, ↓sf5 hi, ↓sf5 hj, ↓sf6 hi, ↓sf6 hj, ↓sf7 hi, ↓sf7 hj, ↓sf8 hi, ↓sf8 hj, ↓sf9 hi, ↓sf9 hj, ↓sf10 hi, ↓sf10 hj, ↓sf11 hi, ↓sf11 hj, ↓sf12 hi, ↓sf12 hj, ↓sf13 hi, ↓sf13 hj, ↓sf14 hi, ↓sf14 hj, ↓sf15 hi, ↓sf15 hj, ↓sp0 hj, ↓sp1 hj, ↓sp2 hj, ↓sp3 hj, ↓sp4 hj, ↓sp5 hj, ↓n_o0 hj, ↓n_o1 hj, ↓n_o2 hj, ↓j_o0 hj, ↓j_o1 hj, ↓j_o2 hj, ↓j_o3 hj, ↓j_o4 hj, ↓j_o5 hj, ↓j_o6 hj, ↓c_N0 hj hi, ↓c_N1 hj hi, ↓c_N2 hj hi, ↓c_J0 hj hi, ↓c_J1 hj hi, ↓c_J2 hj hi, ↓c_J3 hj hi, ↓c_J4 hj hi, ↓c_J5 hj hi, ↓c_J6 hj hi, ↓c_v_none, stS_at, stS_twice, stS_ne hne, sS_2, sN_1, sJ_1, sN_22, sJ_21, sN_ne (show (1 : Nat) ≠ 0 by decide), sN_ne (show (2 : Nat) ≠ 0 by decide), sN_ne (show (2 : Nat) ≠ 1 by decide), sJ_ne (show (1 : Nat) ≠ 0 by decide), sJ_ne (show (2 : Nat) ≠ 0 by decide), sJ_ne (show (2 : Nat) ≠ 1 by decide), sJ_ne (show (3 : Nat) ≠ 0 by decide), sJ_ne (show (3 : Nat) ≠ 1 by decide), sJ_ne (show (3 : Nat) ≠ 2 by decide), sJ_ne (show (4 : Nat) ≠ 0 by decide), sJ_ne (show (4 : Nat) ≠ 1 by decide), sJ_ne (show (4 : Nat) ≠ 2 by decide), sJ_ne (show (4 : Nat) ≠ 3 by decide), sJ_ne (show (5 : Nat) ≠ 0 by decide), sJ_ne (show (5 : Nat) ≠ 1 by decide), sJ_ne (show (5 : Nat) ≠ 2 by decide), sJ_ne (show (5 : Nat) ≠ 3 by decide), sJ_ne (show (5 : Nat) ≠ 4 by decide), sJ_ne (show (6 : Nat) ≠ 0 by decide), sJ_ne (show (6 : Nat) ≠ 1 by decide), sJ_ne (show (6 : Nat) ≠ 2 by decide), sJ_ne (show (6 : Nat) ≠ 3 by decide), sJ_ne (show (6 : Nat) ≠ 4 by decide), sJ_ne (show (6 : Nat) ≠ 5 by decide)]
  rw [cpy_up (f := (g.1 j).2.1 0) (f2 := (g.1 i).2.1 0) (n := 16) (fun q hq => by rw [h1.2.1 0 q hq, h2.2.1 0 q hq]), cpy_up (f := (g.1 j).2.1 1) (f2 := (g.1 i).2.1 1) (n := 6) (fun q hq => by rw [h1.2.1 1 q hq, h2.2.1 1 q hq]), cpy_up (f := (g.1 j).2.1 2) (f2 := (g.1 i).2.1 2) (n := 120) (fun q hq => by rw [h1.2.1 2 q hq, h2.2.1 2 q hq]), cpy_up (f := (g.1 j).2.2 0) (f2 := (g.1 i).2.2 0) (n := 7) (fun q hq => by rw [h1.2.2 0 q hq, h2.2.2 0 q hq]), cpy_up (f := (g.1 j).2.2 1) (f2 := (g.1 i).2.2 1) (n := 8) (fun q hq => by rw [h1.2.2 1 q hq, h2.2.2 1 q hq]), cpy_up (f := (g.1 j).2.2 2) (f2 := (g.1 i).2.2 2) (n := 120) (fun q hq => by rw [h1.2.2 2 q hq, h2.2.2 2 q hq]), cpy_up (f := (g.1 j).2.2 3) (f2 := (g.1 i).2.2 3) (n := 20) (fun q hq => by rw [h1.2.2 3 q hq, h2.2.2 3 q hq]), cpy_up (f := (g.1 j).2.2 4) (f2 := (g.1 i).2.2 4) (n := 8) (fun q hq => by rw [h1.2.2 4 q hq, h2.2.2 4 q hq]), cpy_up (f := (g.1 j).2.2 5) (f2 := (g.1 i).2.2 5) (n := 6) (fun q hq => by rw [h1.2.2 5 q hq, h2.2.2 5 q hq]), cpy_up (f := (g.1 j).2.2 6) (f2 := (g.1 i).2.2 6) (n := 16) (fun q hq => by rw [h1.2.2 6 q hq, h2.2.2 6 q hq])]
  congr 3
  refine Prod.ext ?_ (Prod.ext ?_ ?_)
  · funext q
    by_cases hq : 6 ≤ q
    · rw [h1.1 q hq]
      simp only [sJ, sN, sS, upF]
      repeat' (first | rw [if_neg (show ¬ q = _ by omega)])
      exact h2.1 q hq
    · have : q = 0 ∨ q = 1 ∨ q = 2 ∨ q = 3 ∨ q = 4 ∨ q = 5 := by omega
      rcases this with rfl | rfl | rfl | rfl | rfl | rfl <;> rfl
  · funext k
    match k with
    | 0 => rfl
    | 1 => rfl
    | 2 => rfl
    | k + 3 =>
      funext q
      have e1 := h1.2.1 (k + 3) q (Nat.zero_le _)
      have e2 := h2.2.1 (k + 3) q (Nat.zero_le _)
      simp only [sJ, sN, sS, upF]
      rw [if_neg (by omega), if_neg (by omega), if_neg (by omega), e1, e2]
  · funext k
    match k with
    | 0 => rfl
    | 1 => rfl
    | 2 => rfl
    | 3 => rfl
    | 4 => rfl
    | 5 => rfl
    | 6 => rfl
    | k + 7 =>
      funext q
      have e1 := h1.2.2 (k + 7) q (Nat.zero_le _)
      have e2 := h2.2.2 (k + 7) q (Nat.zero_le _)
      simp only [sJ, sN, sS, upF]
      rw [if_neg (by omega), if_neg (by omega), if_neg (by omega), if_neg (by omega), if_neg (by omega), if_neg (by omega), if_neg (by omega), e1, e2]
end

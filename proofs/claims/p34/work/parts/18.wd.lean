/-! THE WORLD OF ONE CycleTimetable AND ONE CycleTimetableModel: 154 cells. A state (SV): its numbers, its rows of numbers, its sets. -/
abbrev SV : Type := (Nat → Int32) × (Nat → Nat → Int32) × (Nat → Nat → Int64)
/-- the states (0 state, 1 trial, 2 snapshot, 3.. history), CycleTimetable's numbers (hasSnapshot, firstState, states), the text (length, found, position; placings, characters), the model (states, hasSnapshot, length, at, number, first, second, third; now, kept, text) -/
abbrev SG : Type := (Nat → SV) × (Nat → Int32) × ((Nat → Int32) × (Nat → Nat → Int32)) × ((Nat → Int32) × (Nat → Nat → Int32))
def bs (j : Nat) : Nat := if j < 3 then 1 + 21 * j else 2 + 21 * j
def st_cell (s : SV) (B : Nat) : Nat → ri_E
  | 0 => ri_O 2 [.int (s.1 0), .int (s.1 1), .int (s.1 2), .int (s.1 3), .int (s.1 4), .int (s.1 5), .ref (B + 1), .ref (B + 3), .ref (B + 5), .ref (B + 7), .ref (B + 9), .ref (B + 11), .ref (B + 13), .ref (B + 15), .ref (B + 17), .ref (B + 19)]
  | 1 => ri_O 0 [.int 2, .ref (B + 2)]
  | 2 => ri_I 16 (s.2.1 0)
  | 3 => ri_O 0 [.int 1, .ref (B + 4)]
  | 4 => ri_I 6 (s.2.1 1)
  | 5 => ri_O 0 [.int 6, .ref (B + 6)]
  | 6 => ri_I 120 (s.2.1 2)
  | 7 => ri_O 1 [.ref (B + 8)]
  | 8 => ri_J 7 (s.2.2 0)
  | 9 => ri_O 1 [.ref (B + 10)]
  | 10 => ri_J 8 (s.2.2 1)
  | 11 => ri_O 1 [.ref (B + 12)]
  | 12 => ri_J 120 (s.2.2 2)
  | 13 => ri_O 1 [.ref (B + 14)]
  | 14 => ri_J 20 (s.2.2 3)
  | 15 => ri_O 1 [.ref (B + 16)]
  | 16 => ri_J 8 (s.2.2 4)
  | 17 => ri_O 1 [.ref (B + 18)]
  | 18 => ri_J 6 (s.2.2 5)
  | 19 => ri_O 1 [.ref (B + 20)]
  | _ => ri_J 16 (s.2.2 6)
def ot_cell (g : SG) : Nat → ri_E
  | 0 => ri_O 3 [.int (g.2.2.1.1 0), .int (g.2.2.1.1 1), .ref 150, .ref 152, .int (g.2.2.1.1 2)]
  | 1 => ri_O 0 [.int 3, .ref 151]
  | 2 => ri_I 30 (g.2.2.1.2 0)
  | 3 => ri_O 0 [.int 1, .ref 153]
  | _ => ri_I 60 (g.2.2.1.2 1)
def hist_f : Nat → Option Nat := va_up (va_up (va_up (va_up (fun _ => none) 0 (some 65)) 1 (some 86)) 2 (some 107)) 3 (some 128)
def ce (g : SG) (k : Nat) : ri_E :=
  if k = 0 then ri_O 4 [.ref 1, .ref 22, .ref 43, .int (g.2.1 0), .ref 64, .int (g.2.1 1), .int (g.2.1 2), .ref 149]
  else if k < 64 then st_cell (g.1 ((k - 1) / 21)) (1 + 21 * ((k - 1) / 21)) ((k - 1) % 21)
  else if k = 64 then ri_S 4 hist_f
  else if k < 149 then st_cell (g.1 ((k - 2) / 21)) (2 + 21 * ((k - 2) / 21)) ((k - 2) % 21)
  else ot_cell g (k - 149)
def Wd (g : SG) : ri_W := (List.range 154).map (ce g)
theorem Wd_at {g : SG} {k : Nat} (h : k < 154) : (Wd g)[k]? = some (ce g k) := by
  unfold Wd
  rw [List.getElem?_map, List.getElem?_range h]
  rfl
theorem Wd_len (g : SG) : (Wd g).length = 154 := by
  unfold Wd
  rw [List.length_map, List.length_range]
theorem ce_st {g : SG} {j c : Nat} (hj : j < 7) (hc : c < 21) : ce g (bs j + c) = st_cell (g.1 j) (bs j) c := by
  unfold ce bs
  split
  · rename_i h
    rw [if_neg (by omega), if_pos (by omega)]
    have h1 : (1 + 21 * j + c - 1) / 21 = j := by omega
    have h2 : (1 + 21 * j + c - 1) % 21 = c := by omega
    rw [h1, h2]
  · rename_i h
    rw [if_neg (by omega), if_neg (by omega), if_neg (by omega), if_pos (by omega)]
    have h1 : (2 + 21 * j + c - 2) / 21 = j := by omega
    have h2 : (2 + 21 * j + c - 2) % 21 = c := by omega
    rw [h1, h2]
theorem ce_ot {g : SG} {c : Nat} : ce g (149 + c) = ot_cell g c := by
  unfold ce
  rw [if_neg (by omega), if_neg (by omega), if_neg (by omega), if_neg (by omega), show 149 + c - 149 = c by omega]
theorem ce_cong {g g' : SG} {q : Nat} (h1 : g'.1 = g.1) (h2 : g'.2.2 = g.2.2) (hq : q ≠ 0) : ce g' q = ce g q := by
  have h3 : ot_cell g' (q - 149) = ot_cell g (q - 149) := by
    unfold ot_cell
    rw [h2]
  unfold ce
  rw [if_neg hq, if_neg hq, h1, h3]
theorem bs_lt {j c : Nat} (hj : j < 7) (hc : c < 21) : bs j + c < 154 := by
  unfold bs
  split <;> omega
theorem Wd_st {g : SG} {j c : Nat} (hj : j < 7) (hc : c < 21) : (Wd g)[bs j + c]? = some (st_cell (g.1 j) (bs j) c) := by
  rw [Wd_at (bs_lt hj hc), ce_st hj hc]
theorem Wd_st0 {g : SG} {j : Nat} (hj : j < 7) : (Wd g)[bs j]? = some (st_cell (g.1 j) (bs j) 0) := Wd_st (c := 0) hj (by omega)
theorem Wd_ot {g : SG} {c : Nat} (hc : c < 5) : (Wd g)[149 + c]? = some (ot_cell g c) := by
  rw [Wd_at (by omega), ce_ot]
/-- the place of a cell: of a state, or not -/
theorem Wd_cases {k : Nat} (h : k < 154) : k = 0 ∨ k = 64 ∨ (∃ c, c < 5 ∧ k = 149 + c) ∨ ∃ j c, j < 7 ∧ c < 21 ∧ k = bs j + c := by
  by_cases h0 : k = 0
  · exact Or.inl h0
  by_cases h1 : k = 64
  · exact Or.inr (Or.inl h1)
  by_cases h2 : 149 ≤ k
  · exact Or.inr (Or.inr (Or.inl ⟨k - 149, by omega, by omega⟩))
  refine Or.inr (Or.inr (Or.inr ?_))
  by_cases h3 : k < 64
  · refine ⟨(k - 1) / 21, (k - 1) % 21, by omega, by omega, ?_⟩
    unfold bs
    rw [if_pos (by omega)]
    omega
  · refine ⟨(k - 2) / 21, (k - 2) % 21, by omega, by omega, ?_⟩
    unfold bs
    rw [if_neg (by omega)]
    omega
theorem bs_inj {j j' c c' : Nat} (hj : j < 7) (hj' : j' < 7) (hc : c < 21) (hc' : c' < 21) (h : bs j + c = bs j' + c') : j = j' ∧ c = c' := by
  unfold bs at h
  split at h <;> split at h <;> omega
theorem bs_pos {j : Nat} : 0 < bs j := by
  unfold bs
  split <;> omega
theorem bs_ne {j c : Nat} (hj : j < 7) (hc : c < 21) : bs j + c ≠ 64 ∧ bs j + c < 149 := by
  unfold bs
  split <;> omega
/-- a cell is set, and nothing else is other -/
theorem Wd_set {g g' : SG} {k : Nat} {e : ri_E} (hk : k < 154) (he : ce g' k = e) (ho : ∀ q, q < 154 → q ≠ k → ce g' q = ce g q) : (Wd g).set k e = Wd g' := by
  apply List.ext_getElem?
  intro i
  rcases Nat.lt_or_ge i 154 with h | h
  · by_cases hi : i = k
    · subst hi
      rw [List.getElem?_set_self (by rw [Wd_len]; exact h), Wd_at h, he]
    · rw [List.getElem?_set_ne (Ne.symm hi), Wd_at h, Wd_at h, ho i h hi]
  · rw [List.getElem?_eq_none (by rw [List.length_set, Wd_len]; exact h), List.getElem?_eq_none (by rw [Wd_len]; exact h)]
def stS (g : SG) (j : Nat) (s : SV) : SG := (fun q => if q = j then s else g.1 q, g.2)
theorem stS_at {g : SG} {j : Nat} {s : SV} : (stS g j s).1 j = s := if_pos rfl
theorem stS_ne {g : SG} {j i : Nat} {s : SV} (h : i ≠ j) : (stS g j s).1 i = g.1 i := if_neg h
theorem stS_2 {g : SG} {j : Nat} {s : SV} : (stS g j s).2 = g.2 := rfl
theorem stS_self {g : SG} {j : Nat} : stS g j (g.1 j) = g := by
  unfold stS
  refine Prod.ext ?_ rfl
  funext q
  dsimp only
  split
  · rename_i h; rw [h]
  · rfl
theorem stS_twice {g : SG} {j : Nat} {s s' : SV} : stS (stS g j s) j s' = stS g j s' := by
  unfold stS
  refine Prod.ext ?_ rfl
  funext q
  dsimp only
  split <;> rfl
/-- a cell of a state is set -/
theorem Wd_setst {g : SG} {j c : Nat} {s : SV} {e : ri_E} (hj : j < 7) (hc : c < 21) (he : st_cell s (bs j) c = e) (ho : ∀ q, q < 21 → q ≠ c → st_cell s (bs j) q = st_cell (g.1 j) (bs j) q) : (Wd g).set (bs j + c) e = Wd (stS g j s) := by
  refine Wd_set (bs_lt hj hc) (by rw [ce_st hj hc, stS_at]; exact he) (fun q hq hne => ?_)
  rcases Wd_cases hq with rfl | rfl | ⟨c', hc', rfl⟩ | ⟨j', c', hj', hc', rfl⟩
  · rfl
  · rfl
  · rw [ce_ot, ce_ot]
    rfl
  · rw [ce_st hj' hc', ce_st hj' hc']
    by_cases h : j' = j
    · subst h
      rw [stS_at]
      exact ho c' hc' (fun h2 => hne (by rw [h2]))
    · rw [stS_ne h]
/-- a cell that is of no state is set -/
theorem Wd_setot {g g' : SG} {c : Nat} {e : ri_E} (hc : c < 5) (h1 : g'.1 = g.1) (h2 : g'.2.1 = g.2.1) (he : ot_cell g' c = e) (ho : ∀ q, q < 5 → q ≠ c → ot_cell g' q = ot_cell g q) : (Wd g).set (149 + c) e = Wd g' := by
  refine Wd_set (by omega) (by rw [ce_ot]; exact he) (fun q hq hne => ?_)
  rcases Wd_cases hq with rfl | rfl | ⟨c', hc', rfl⟩ | ⟨j', c', hj', hc', rfl⟩
  · unfold ce
    rw [if_pos rfl, if_pos rfl, h2]
  · rfl
  · rw [ce_ot, ce_ot]
    exact ho c' hc' (fun h => hne (by rw [h]))
  · rw [ce_st hj' hc', ce_st hj' hc', h1]
theorem gO_of {w : ri_W} {a : Nat} {x : Nat × List Value} (h : w[a]? = some (.inr x)) : ri_gO w a = some x := by
  unfold ri_gO
  rw [h]
theorem gI_of {w : ri_W} {a : Nat} {x : Nat × (Nat → Int32)} (h : w[a]? = some (.inl (.inl x))) : ri_gI w a = some x := by
  unfold ri_gI
  rw [h]
theorem gJ_of {w : ri_W} {a : Nat} {x : Nat × (Nat → Int64)} (h : w[a]? = some (.inl (.inr (.inl x)))) : ri_gJ w a = some x := by
  unfold ri_gJ
  rw [h]
theorem gI_no {w : ri_W} {a : Nat} {x : Nat × (Nat → Int64)} (h : w[a]? = some (.inl (.inr (.inl x)))) : ri_gI w a = none := by
  unfold ri_gI
  rw [h]
theorem gS_of {w : ri_W} {a : Nat} {x : Nat × (Nat → Option Nat)} (h : w[a]? = some (.inl (.inr (.inr x)))) : ri_gS w a = some x := by
  unfold ri_gS
  rw [h]
theorem gN_I {w : ri_W} {a : Nat} {x : Nat × (Nat → Int32)} (h : ri_gI w a = some x) : ri_gN w a = some x.1 := by
  unfold ri_gN
  rw [ri_gI_eq h]
theorem gN_J {w : ri_W} {a : Nat} {x : Nat × (Nat → Int64)} (h : ri_gJ w a = some x) : ri_gN w a = some x.1 := by
  unfold ri_gN
  rw [ri_gJ_eq h]
theorem gN_S {w : ri_W} {a : Nat} {x : Nat × (Nat → Option Nat)} (h : ri_gS w a = some x) : ri_gN w a = some x.1 := by
  unfold ri_gN
  rw [ri_gS_eq h]
theorem gf_of {w : ri_W} {a ci k : Nat} {fs : List Value} {v : Value} {K : Value → Prop} (h : ri_gO w a = some (ci, fs)) (hk : fs[k]? = some v) : c_g (ri_gf w a ci k) K = K v := by
  unfold ri_gf
  rw [h]
  dsimp only
  rw [if_pos rfl, hk]
  rfl
theorem pf_of {w : ri_W} {a ci k : Nat} {fs : List Value} {v : Value} {K : ri_W → Prop} (h : ri_gO w a = some (ci, fs)) (hk : k < fs.length) : c_p (ri_pf w a ci k v) K = K (w.set a (ri_O ci (fs.set k v))) := by
  unfold ri_pf
  rw [h]
  dsimp only
  rw [if_pos ⟨rfl, hk⟩]
  rfl
theorem o_of {w : ri_W} {a ci : Nat} {fs : List Value} {P : Prop} (h : ri_gO w a = some (ci, fs)) : c_o (ri_gO w a) ci P = P := by
  rw [h]
  exact c_o_some
theorem I_of {w : ri_W} {a n : Nat} {f : Nat → Int32} {K : Nat → (Nat → Int32) → Prop} (h : ri_gI w a = some (n, f)) : c_I (ri_gI w a) K = K n f := by
  rw [h]
  rfl
theorem J_of {w : ri_W} {a n : Nat} {f : Nat → Int64} {K : Nat → (Nat → Int64) → Prop} (h : ri_gJ w a = some (n, f)) : c_J (ri_gJ w a) K = K n f := by
  rw [h]
  rfl
theorem S_of {w : ri_W} {a n : Nat} {f : Nat → Option Nat} {K : Nat → (Nat → Option Nat) → Prop} (h : ri_gS w a = some (n, f)) : c_S (ri_gS w a) K = K n f := by
  rw [h]
  rfl
theorem N_of {w : ri_W} {a n : Nat} {K : Nat → Prop} (h : ri_gN w a = some n) : c_N (ri_gN w a) K = K n := by
  rw [h]
  rfl
section
variable {g : SG} {j : Nat}
theorem so (hj : j < 7) : ri_gO (Wd g) (bs j) = some (2, [.int ((g.1 j).1 0), .int ((g.1 j).1 1), .int ((g.1 j).1 2), .int ((g.1 j).1 3), .int ((g.1 j).1 4), .int ((g.1 j).1 5), .ref (bs j + 1), .ref (bs j + 3), .ref (bs j + 5), .ref (bs j + 7), .ref (bs j + 9), .ref (bs j + 11), .ref (bs j + 13), .ref (bs j + 15), .ref (bs j + 17), .ref (bs j + 19)]) := gO_of (Wd_st0 hj)
theorem sf0 (hj : j < 7) {K : Value → Prop} : c_g (ri_gf (Wd g) (bs j) 2 0) K = K (.int ((g.1 j).1 0)) := gf_of (so hj) rfl
theorem sf1 (hj : j < 7) {K : Value → Prop} : c_g (ri_gf (Wd g) (bs j) 2 1) K = K (.int ((g.1 j).1 1)) := gf_of (so hj) rfl
theorem sf2 (hj : j < 7) {K : Value → Prop} : c_g (ri_gf (Wd g) (bs j) 2 2) K = K (.int ((g.1 j).1 2)) := gf_of (so hj) rfl
theorem sf3 (hj : j < 7) {K : Value → Prop} : c_g (ri_gf (Wd g) (bs j) 2 3) K = K (.int ((g.1 j).1 3)) := gf_of (so hj) rfl
theorem sf4 (hj : j < 7) {K : Value → Prop} : c_g (ri_gf (Wd g) (bs j) 2 4) K = K (.int ((g.1 j).1 4)) := gf_of (so hj) rfl
theorem sf5 (hj : j < 7) {K : Value → Prop} : c_g (ri_gf (Wd g) (bs j) 2 5) K = K (.int ((g.1 j).1 5)) := gf_of (so hj) rfl
theorem sf6 (hj : j < 7) {K : Value → Prop} : c_g (ri_gf (Wd g) (bs j) 2 6) K = K (.ref (bs j + 1)) := gf_of (so hj) rfl
theorem sf7 (hj : j < 7) {K : Value → Prop} : c_g (ri_gf (Wd g) (bs j) 2 7) K = K (.ref (bs j + 3)) := gf_of (so hj) rfl
theorem sf8 (hj : j < 7) {K : Value → Prop} : c_g (ri_gf (Wd g) (bs j) 2 8) K = K (.ref (bs j + 5)) := gf_of (so hj) rfl
theorem sf9 (hj : j < 7) {K : Value → Prop} : c_g (ri_gf (Wd g) (bs j) 2 9) K = K (.ref (bs j + 7)) := gf_of (so hj) rfl
theorem sf10 (hj : j < 7) {K : Value → Prop} : c_g (ri_gf (Wd g) (bs j) 2 10) K = K (.ref (bs j + 9)) := gf_of (so hj) rfl
theorem sf11 (hj : j < 7) {K : Value → Prop} : c_g (ri_gf (Wd g) (bs j) 2 11) K = K (.ref (bs j + 11)) := gf_of (so hj) rfl
theorem sf12 (hj : j < 7) {K : Value → Prop} : c_g (ri_gf (Wd g) (bs j) 2 12) K = K (.ref (bs j + 13)) := gf_of (so hj) rfl
theorem sf13 (hj : j < 7) {K : Value → Prop} : c_g (ri_gf (Wd g) (bs j) 2 13) K = K (.ref (bs j + 15)) := gf_of (so hj) rfl
theorem sf14 (hj : j < 7) {K : Value → Prop} : c_g (ri_gf (Wd g) (bs j) 2 14) K = K (.ref (bs j + 17)) := gf_of (so hj) rfl
theorem sf15 (hj : j < 7) {K : Value → Prop} : c_g (ri_gf (Wd g) (bs j) 2 15) K = K (.ref (bs j + 19)) := gf_of (so hj) rfl
theorem s_o (hj : j < 7) {P : Prop} : c_o (ri_gO (Wd g) (bs j)) 2 P = P := o_of (so hj)
theorem no0 (hj : j < 7) : ri_gO (Wd g) (bs j + 1) = some (0, [.int 2, .ref (bs j + 2)]) := gO_of (Wd_st hj (by omega))
theorem ni0 (hj : j < 7) : ri_gI (Wd g) (bs j + 2) = some (16, (g.1 j).2.1 0) := gI_of (Wd_st hj (by omega))
theorem n_o0 (hj : j < 7) {P : Prop} : c_o (ri_gO (Wd g) (bs j + 1)) 0 P = P := o_of (no0 hj)
theorem no1 (hj : j < 7) : ri_gO (Wd g) (bs j + 3) = some (0, [.int 1, .ref (bs j + 4)]) := gO_of (Wd_st hj (by omega))
theorem ni1 (hj : j < 7) : ri_gI (Wd g) (bs j + 4) = some (6, (g.1 j).2.1 1) := gI_of (Wd_st hj (by omega))
theorem n_o1 (hj : j < 7) {P : Prop} : c_o (ri_gO (Wd g) (bs j + 3)) 0 P = P := o_of (no1 hj)
theorem no2 (hj : j < 7) : ri_gO (Wd g) (bs j + 5) = some (0, [.int 6, .ref (bs j + 6)]) := gO_of (Wd_st hj (by omega))
theorem ni2 (hj : j < 7) : ri_gI (Wd g) (bs j + 6) = some (120, (g.1 j).2.1 2) := gI_of (Wd_st hj (by omega))
theorem n_o2 (hj : j < 7) {P : Prop} : c_o (ri_gO (Wd g) (bs j + 5)) 0 P = P := o_of (no2 hj)
theorem jo0 (hj : j < 7) : ri_gO (Wd g) (bs j + 7) = some (1, [.ref (bs j + 8)]) := gO_of (Wd_st hj (by omega))
theorem jj0 (hj : j < 7) : ri_gJ (Wd g) (bs j + 8) = some (7, (g.1 j).2.2 0) := gJ_of (Wd_st hj (by omega))
theorem jn0 (hj : j < 7) : ri_gI (Wd g) (bs j + 8) = none := gI_no (Wd_st hj (by omega))
theorem j_o0 (hj : j < 7) {P : Prop} : c_o (ri_gO (Wd g) (bs j + 7)) 1 P = P := o_of (jo0 hj)
theorem jo1 (hj : j < 7) : ri_gO (Wd g) (bs j + 9) = some (1, [.ref (bs j + 10)]) := gO_of (Wd_st hj (by omega))
theorem jj1 (hj : j < 7) : ri_gJ (Wd g) (bs j + 10) = some (8, (g.1 j).2.2 1) := gJ_of (Wd_st hj (by omega))
theorem jn1 (hj : j < 7) : ri_gI (Wd g) (bs j + 10) = none := gI_no (Wd_st hj (by omega))
theorem j_o1 (hj : j < 7) {P : Prop} : c_o (ri_gO (Wd g) (bs j + 9)) 1 P = P := o_of (jo1 hj)
theorem jo2 (hj : j < 7) : ri_gO (Wd g) (bs j + 11) = some (1, [.ref (bs j + 12)]) := gO_of (Wd_st hj (by omega))
theorem jj2 (hj : j < 7) : ri_gJ (Wd g) (bs j + 12) = some (120, (g.1 j).2.2 2) := gJ_of (Wd_st hj (by omega))
theorem jn2 (hj : j < 7) : ri_gI (Wd g) (bs j + 12) = none := gI_no (Wd_st hj (by omega))
theorem j_o2 (hj : j < 7) {P : Prop} : c_o (ri_gO (Wd g) (bs j + 11)) 1 P = P := o_of (jo2 hj)
theorem jo3 (hj : j < 7) : ri_gO (Wd g) (bs j + 13) = some (1, [.ref (bs j + 14)]) := gO_of (Wd_st hj (by omega))
theorem jj3 (hj : j < 7) : ri_gJ (Wd g) (bs j + 14) = some (20, (g.1 j).2.2 3) := gJ_of (Wd_st hj (by omega))
theorem jn3 (hj : j < 7) : ri_gI (Wd g) (bs j + 14) = none := gI_no (Wd_st hj (by omega))
theorem j_o3 (hj : j < 7) {P : Prop} : c_o (ri_gO (Wd g) (bs j + 13)) 1 P = P := o_of (jo3 hj)
theorem jo4 (hj : j < 7) : ri_gO (Wd g) (bs j + 15) = some (1, [.ref (bs j + 16)]) := gO_of (Wd_st hj (by omega))
theorem jj4 (hj : j < 7) : ri_gJ (Wd g) (bs j + 16) = some (8, (g.1 j).2.2 4) := gJ_of (Wd_st hj (by omega))
theorem jn4 (hj : j < 7) : ri_gI (Wd g) (bs j + 16) = none := gI_no (Wd_st hj (by omega))
theorem j_o4 (hj : j < 7) {P : Prop} : c_o (ri_gO (Wd g) (bs j + 15)) 1 P = P := o_of (jo4 hj)
theorem jo5 (hj : j < 7) : ri_gO (Wd g) (bs j + 17) = some (1, [.ref (bs j + 18)]) := gO_of (Wd_st hj (by omega))
theorem jj5 (hj : j < 7) : ri_gJ (Wd g) (bs j + 18) = some (6, (g.1 j).2.2 5) := gJ_of (Wd_st hj (by omega))
theorem jn5 (hj : j < 7) : ri_gI (Wd g) (bs j + 18) = none := gI_no (Wd_st hj (by omega))
theorem j_o5 (hj : j < 7) {P : Prop} : c_o (ri_gO (Wd g) (bs j + 17)) 1 P = P := o_of (jo5 hj)
theorem jo6 (hj : j < 7) : ri_gO (Wd g) (bs j + 19) = some (1, [.ref (bs j + 20)]) := gO_of (Wd_st hj (by omega))
theorem jj6 (hj : j < 7) : ri_gJ (Wd g) (bs j + 20) = some (16, (g.1 j).2.2 6) := gJ_of (Wd_st hj (by omega))
theorem jn6 (hj : j < 7) : ri_gI (Wd g) (bs j + 20) = none := gI_no (Wd_st hj (by omega))
theorem j_o6 (hj : j < 7) {P : Prop} : c_o (ri_gO (Wd g) (bs j + 19)) 1 P = P := o_of (jo6 hj)
def upF {α : Type} (f : Nat → α) (k : Nat) (x : α) : Nat → α := fun q => if q = k then x else f q
theorem upF_at {α : Type} {f : Nat → α} {k : Nat} {x : α} : upF f k x k = x := if_pos rfl
theorem upF_ne {α : Type} {f : Nat → α} {k q : Nat} {x : α} (h : q ≠ k) : upF f k x q = f q := if_neg h
theorem upF_eq {f : Nat → Int32} {k : Nat} {x : Int32} : upd f k x = upF f k x := rfl
theorem upF_eqL {f : Nat → Int64} {k : Nat} {x : Int64} : vp_updL f k x = upF f k x := rfl
def sS (s : SV) (i : Nat) (v : Int32) : SV := (upF s.1 i v, s.2)
def sN (s : SV) (i : Nat) (f : Nat → Int32) : SV := (s.1, upF s.2.1 i f, s.2.2)
def sJ (s : SV) (i : Nat) (f : Nat → Int64) : SV := (s.1, s.2.1, upF s.2.2 i f)
theorem sp0 (hj : j < 7) {v : Int32} {K : ri_W → Prop} : c_p (ri_pf (Wd g) (bs j) 2 0 (.int v)) K = K (Wd (stS g j (sS (g.1 j) 0 v))) := by
  rw [pf_of (so hj) (by show 0 < 16; omega)]
  exact congrArg K (Wd_setst (c := 0) hj (by omega) rfl (fun q hq hne => by
    match q, hq, hne with
    | 0, _, hne => exact absurd rfl hne
    | 1, _, _ => rfl
    | 2, _, _ => rfl
    | 3, _, _ => rfl
    | 4, _, _ => rfl
    | 5, _, _ => rfl
    | 6, _, _ => rfl
    | 7, _, _ => rfl
    | 8, _, _ => rfl
    | 9, _, _ => rfl
    | 10, _, _ => rfl
    | 11, _, _ => rfl
    | 12, _, _ => rfl
    | 13, _, _ => rfl
    | 14, _, _ => rfl
    | 15, _, _ => rfl
    | 16, _, _ => rfl
    | 17, _, _ => rfl
    | 18, _, _ => rfl
    | 19, _, _ => rfl
    | 20, _, _ => rfl
    | q + 21, hq, _ => exact absurd hq (by omega)))
theorem sp1 (hj : j < 7) {v : Int32} {K : ri_W → Prop} : c_p (ri_pf (Wd g) (bs j) 2 1 (.int v)) K = K (Wd (stS g j (sS (g.1 j) 1 v))) := by
  rw [pf_of (so hj) (by show 1 < 16; omega)]
  exact congrArg K (Wd_setst (c := 0) hj (by omega) rfl (fun q hq hne => by
    match q, hq, hne with
    | 0, _, hne => exact absurd rfl hne
    | 1, _, _ => rfl
    | 2, _, _ => rfl
    | 3, _, _ => rfl
    | 4, _, _ => rfl
    | 5, _, _ => rfl
    | 6, _, _ => rfl
    | 7, _, _ => rfl
    | 8, _, _ => rfl
    | 9, _, _ => rfl
    | 10, _, _ => rfl
    | 11, _, _ => rfl
    | 12, _, _ => rfl
    | 13, _, _ => rfl
    | 14, _, _ => rfl
    | 15, _, _ => rfl
    | 16, _, _ => rfl
    | 17, _, _ => rfl
    | 18, _, _ => rfl
    | 19, _, _ => rfl
    | 20, _, _ => rfl
    | q + 21, hq, _ => exact absurd hq (by omega)))
theorem sp2 (hj : j < 7) {v : Int32} {K : ri_W → Prop} : c_p (ri_pf (Wd g) (bs j) 2 2 (.int v)) K = K (Wd (stS g j (sS (g.1 j) 2 v))) := by
  rw [pf_of (so hj) (by show 2 < 16; omega)]
  exact congrArg K (Wd_setst (c := 0) hj (by omega) rfl (fun q hq hne => by
    match q, hq, hne with
    | 0, _, hne => exact absurd rfl hne
    | 1, _, _ => rfl
    | 2, _, _ => rfl
    | 3, _, _ => rfl
    | 4, _, _ => rfl
    | 5, _, _ => rfl
    | 6, _, _ => rfl
    | 7, _, _ => rfl
    | 8, _, _ => rfl
    | 9, _, _ => rfl
    | 10, _, _ => rfl
    | 11, _, _ => rfl
    | 12, _, _ => rfl
    | 13, _, _ => rfl
    | 14, _, _ => rfl
    | 15, _, _ => rfl
    | 16, _, _ => rfl
    | 17, _, _ => rfl
    | 18, _, _ => rfl
    | 19, _, _ => rfl
    | 20, _, _ => rfl
    | q + 21, hq, _ => exact absurd hq (by omega)))
theorem sp3 (hj : j < 7) {v : Int32} {K : ri_W → Prop} : c_p (ri_pf (Wd g) (bs j) 2 3 (.int v)) K = K (Wd (stS g j (sS (g.1 j) 3 v))) := by
  rw [pf_of (so hj) (by show 3 < 16; omega)]
  exact congrArg K (Wd_setst (c := 0) hj (by omega) rfl (fun q hq hne => by
    match q, hq, hne with
    | 0, _, hne => exact absurd rfl hne
    | 1, _, _ => rfl
    | 2, _, _ => rfl
    | 3, _, _ => rfl
    | 4, _, _ => rfl
    | 5, _, _ => rfl
    | 6, _, _ => rfl
    | 7, _, _ => rfl
    | 8, _, _ => rfl
    | 9, _, _ => rfl
    | 10, _, _ => rfl
    | 11, _, _ => rfl
    | 12, _, _ => rfl
    | 13, _, _ => rfl
    | 14, _, _ => rfl
    | 15, _, _ => rfl
    | 16, _, _ => rfl
    | 17, _, _ => rfl
    | 18, _, _ => rfl
    | 19, _, _ => rfl
    | 20, _, _ => rfl
    | q + 21, hq, _ => exact absurd hq (by omega)))
theorem sp4 (hj : j < 7) {v : Int32} {K : ri_W → Prop} : c_p (ri_pf (Wd g) (bs j) 2 4 (.int v)) K = K (Wd (stS g j (sS (g.1 j) 4 v))) := by
  rw [pf_of (so hj) (by show 4 < 16; omega)]
  exact congrArg K (Wd_setst (c := 0) hj (by omega) rfl (fun q hq hne => by
    match q, hq, hne with
    | 0, _, hne => exact absurd rfl hne
    | 1, _, _ => rfl
    | 2, _, _ => rfl
    | 3, _, _ => rfl
    | 4, _, _ => rfl
    | 5, _, _ => rfl
    | 6, _, _ => rfl
    | 7, _, _ => rfl
    | 8, _, _ => rfl
    | 9, _, _ => rfl
    | 10, _, _ => rfl
    | 11, _, _ => rfl
    | 12, _, _ => rfl
    | 13, _, _ => rfl
    | 14, _, _ => rfl
    | 15, _, _ => rfl
    | 16, _, _ => rfl
    | 17, _, _ => rfl
    | 18, _, _ => rfl
    | 19, _, _ => rfl
    | 20, _, _ => rfl
    | q + 21, hq, _ => exact absurd hq (by omega)))
theorem sp5 (hj : j < 7) {v : Int32} {K : ri_W → Prop} : c_p (ri_pf (Wd g) (bs j) 2 5 (.int v)) K = K (Wd (stS g j (sS (g.1 j) 5 v))) := by
  rw [pf_of (so hj) (by show 5 < 16; omega)]
  exact congrArg K (Wd_setst (c := 0) hj (by omega) rfl (fun q hq hne => by
    match q, hq, hne with
    | 0, _, hne => exact absurd rfl hne
    | 1, _, _ => rfl
    | 2, _, _ => rfl
    | 3, _, _ => rfl
    | 4, _, _ => rfl
    | 5, _, _ => rfl
    | 6, _, _ => rfl
    | 7, _, _ => rfl
    | 8, _, _ => rfl
    | 9, _, _ => rfl
    | 10, _, _ => rfl
    | 11, _, _ => rfl
    | 12, _, _ => rfl
    | 13, _, _ => rfl
    | 14, _, _ => rfl
    | 15, _, _ => rfl
    | 16, _, _ => rfl
    | 17, _, _ => rfl
    | 18, _, _ => rfl
    | 19, _, _ => rfl
    | 20, _, _ => rfl
    | q + 21, hq, _ => exact absurd hq (by omega)))
theorem ns0 (hj : j < 7) {f : Nat → Int32} : (Wd g).set (bs j + 2) (ri_I 16 f) = Wd (stS g j (sN (g.1 j) 0 f)) := Wd_setst hj (by omega) rfl (fun q hq hne => by
    match q, hq, hne with
    | 0, _, _ => rfl
    | 1, _, _ => rfl
    | 2, _, hne => exact absurd rfl hne
    | 3, _, _ => rfl
    | 4, _, _ => rfl
    | 5, _, _ => rfl
    | 6, _, _ => rfl
    | 7, _, _ => rfl
    | 8, _, _ => rfl
    | 9, _, _ => rfl
    | 10, _, _ => rfl
    | 11, _, _ => rfl
    | 12, _, _ => rfl
    | 13, _, _ => rfl
    | 14, _, _ => rfl
    | 15, _, _ => rfl
    | 16, _, _ => rfl
    | 17, _, _ => rfl
    | 18, _, _ => rfl
    | 19, _, _ => rfl
    | 20, _, _ => rfl
    | q + 21, hq, _ => exact absurd hq (by omega))
theorem ns1 (hj : j < 7) {f : Nat → Int32} : (Wd g).set (bs j + 4) (ri_I 6 f) = Wd (stS g j (sN (g.1 j) 1 f)) := Wd_setst hj (by omega) rfl (fun q hq hne => by
    match q, hq, hne with
    | 0, _, _ => rfl
    | 1, _, _ => rfl
    | 2, _, _ => rfl
    | 3, _, _ => rfl
    | 4, _, hne => exact absurd rfl hne
    | 5, _, _ => rfl
    | 6, _, _ => rfl
    | 7, _, _ => rfl
    | 8, _, _ => rfl
    | 9, _, _ => rfl
    | 10, _, _ => rfl
    | 11, _, _ => rfl
    | 12, _, _ => rfl
    | 13, _, _ => rfl
    | 14, _, _ => rfl
    | 15, _, _ => rfl
    | 16, _, _ => rfl
    | 17, _, _ => rfl
    | 18, _, _ => rfl
    | 19, _, _ => rfl
    | 20, _, _ => rfl
    | q + 21, hq, _ => exact absurd hq (by omega))
theorem ns2 (hj : j < 7) {f : Nat → Int32} : (Wd g).set (bs j + 6) (ri_I 120 f) = Wd (stS g j (sN (g.1 j) 2 f)) := Wd_setst hj (by omega) rfl (fun q hq hne => by
    match q, hq, hne with
    | 0, _, _ => rfl
    | 1, _, _ => rfl
    | 2, _, _ => rfl
    | 3, _, _ => rfl
    | 4, _, _ => rfl
    | 5, _, _ => rfl
    | 6, _, hne => exact absurd rfl hne
    | 7, _, _ => rfl
    | 8, _, _ => rfl
    | 9, _, _ => rfl
    | 10, _, _ => rfl
    | 11, _, _ => rfl
    | 12, _, _ => rfl
    | 13, _, _ => rfl
    | 14, _, _ => rfl
    | 15, _, _ => rfl
    | 16, _, _ => rfl
    | 17, _, _ => rfl
    | 18, _, _ => rfl
    | 19, _, _ => rfl
    | 20, _, _ => rfl
    | q + 21, hq, _ => exact absurd hq (by omega))
theorem js0 (hj : j < 7) {f : Nat → Int64} : (Wd g).set (bs j + 8) (ri_J 7 f) = Wd (stS g j (sJ (g.1 j) 0 f)) := Wd_setst hj (by omega) rfl (fun q hq hne => by
    match q, hq, hne with
    | 0, _, _ => rfl
    | 1, _, _ => rfl
    | 2, _, _ => rfl
    | 3, _, _ => rfl
    | 4, _, _ => rfl
    | 5, _, _ => rfl
    | 6, _, _ => rfl
    | 7, _, _ => rfl
    | 8, _, hne => exact absurd rfl hne
    | 9, _, _ => rfl
    | 10, _, _ => rfl
    | 11, _, _ => rfl
    | 12, _, _ => rfl
    | 13, _, _ => rfl
    | 14, _, _ => rfl
    | 15, _, _ => rfl
    | 16, _, _ => rfl
    | 17, _, _ => rfl
    | 18, _, _ => rfl
    | 19, _, _ => rfl
    | 20, _, _ => rfl
    | q + 21, hq, _ => exact absurd hq (by omega))
theorem js1 (hj : j < 7) {f : Nat → Int64} : (Wd g).set (bs j + 10) (ri_J 8 f) = Wd (stS g j (sJ (g.1 j) 1 f)) := Wd_setst hj (by omega) rfl (fun q hq hne => by
    match q, hq, hne with
    | 0, _, _ => rfl
    | 1, _, _ => rfl
    | 2, _, _ => rfl
    | 3, _, _ => rfl
    | 4, _, _ => rfl
    | 5, _, _ => rfl
    | 6, _, _ => rfl
    | 7, _, _ => rfl
    | 8, _, _ => rfl
    | 9, _, _ => rfl
    | 10, _, hne => exact absurd rfl hne
    | 11, _, _ => rfl
    | 12, _, _ => rfl
    | 13, _, _ => rfl
    | 14, _, _ => rfl
    | 15, _, _ => rfl
    | 16, _, _ => rfl
    | 17, _, _ => rfl
    | 18, _, _ => rfl
    | 19, _, _ => rfl
    | 20, _, _ => rfl
    | q + 21, hq, _ => exact absurd hq (by omega))
theorem js2 (hj : j < 7) {f : Nat → Int64} : (Wd g).set (bs j + 12) (ri_J 120 f) = Wd (stS g j (sJ (g.1 j) 2 f)) := Wd_setst hj (by omega) rfl (fun q hq hne => by
    match q, hq, hne with
    | 0, _, _ => rfl
    | 1, _, _ => rfl
    | 2, _, _ => rfl
    | 3, _, _ => rfl
    | 4, _, _ => rfl
    | 5, _, _ => rfl
    | 6, _, _ => rfl
    | 7, _, _ => rfl
    | 8, _, _ => rfl
    | 9, _, _ => rfl
    | 10, _, _ => rfl
    | 11, _, _ => rfl
    | 12, _, hne => exact absurd rfl hne
    | 13, _, _ => rfl
    | 14, _, _ => rfl
    | 15, _, _ => rfl
    | 16, _, _ => rfl
    | 17, _, _ => rfl
    | 18, _, _ => rfl
    | 19, _, _ => rfl
    | 20, _, _ => rfl
    | q + 21, hq, _ => exact absurd hq (by omega))
theorem js3 (hj : j < 7) {f : Nat → Int64} : (Wd g).set (bs j + 14) (ri_J 20 f) = Wd (stS g j (sJ (g.1 j) 3 f)) := Wd_setst hj (by omega) rfl (fun q hq hne => by
    match q, hq, hne with
    | 0, _, _ => rfl
    | 1, _, _ => rfl
    | 2, _, _ => rfl
    | 3, _, _ => rfl
    | 4, _, _ => rfl
    | 5, _, _ => rfl
    | 6, _, _ => rfl
    | 7, _, _ => rfl
    | 8, _, _ => rfl
    | 9, _, _ => rfl
    | 10, _, _ => rfl
    | 11, _, _ => rfl
    | 12, _, _ => rfl
    | 13, _, _ => rfl
    | 14, _, hne => exact absurd rfl hne
    | 15, _, _ => rfl
    | 16, _, _ => rfl
    | 17, _, _ => rfl
    | 18, _, _ => rfl
    | 19, _, _ => rfl
    | 20, _, _ => rfl
    | q + 21, hq, _ => exact absurd hq (by omega))
theorem js4 (hj : j < 7) {f : Nat → Int64} : (Wd g).set (bs j + 16) (ri_J 8 f) = Wd (stS g j (sJ (g.1 j) 4 f)) := Wd_setst hj (by omega) rfl (fun q hq hne => by
    match q, hq, hne with
    | 0, _, _ => rfl
    | 1, _, _ => rfl
    | 2, _, _ => rfl
    | 3, _, _ => rfl
    | 4, _, _ => rfl
    | 5, _, _ => rfl
    | 6, _, _ => rfl
    | 7, _, _ => rfl
    | 8, _, _ => rfl
    | 9, _, _ => rfl
    | 10, _, _ => rfl
    | 11, _, _ => rfl
    | 12, _, _ => rfl
    | 13, _, _ => rfl
    | 14, _, _ => rfl
    | 15, _, _ => rfl
    | 16, _, hne => exact absurd rfl hne
    | 17, _, _ => rfl
    | 18, _, _ => rfl
    | 19, _, _ => rfl
    | 20, _, _ => rfl
    | q + 21, hq, _ => exact absurd hq (by omega))
theorem js5 (hj : j < 7) {f : Nat → Int64} : (Wd g).set (bs j + 18) (ri_J 6 f) = Wd (stS g j (sJ (g.1 j) 5 f)) := Wd_setst hj (by omega) rfl (fun q hq hne => by
    match q, hq, hne with
    | 0, _, _ => rfl
    | 1, _, _ => rfl
    | 2, _, _ => rfl
    | 3, _, _ => rfl
    | 4, _, _ => rfl
    | 5, _, _ => rfl
    | 6, _, _ => rfl
    | 7, _, _ => rfl
    | 8, _, _ => rfl
    | 9, _, _ => rfl
    | 10, _, _ => rfl
    | 11, _, _ => rfl
    | 12, _, _ => rfl
    | 13, _, _ => rfl
    | 14, _, _ => rfl
    | 15, _, _ => rfl
    | 16, _, _ => rfl
    | 17, _, _ => rfl
    | 18, _, hne => exact absurd rfl hne
    | 19, _, _ => rfl
    | 20, _, _ => rfl
    | q + 21, hq, _ => exact absurd hq (by omega))
theorem js6 (hj : j < 7) {f : Nat → Int64} : (Wd g).set (bs j + 20) (ri_J 16 f) = Wd (stS g j (sJ (g.1 j) 6 f)) := Wd_setst hj (by omega) rfl (fun q hq hne => by
    match q, hq, hne with
    | 0, _, _ => rfl
    | 1, _, _ => rfl
    | 2, _, _ => rfl
    | 3, _, _ => rfl
    | 4, _, _ => rfl
    | 5, _, _ => rfl
    | 6, _, _ => rfl
    | 7, _, _ => rfl
    | 8, _, _ => rfl
    | 9, _, _ => rfl
    | 10, _, _ => rfl
    | 11, _, _ => rfl
    | 12, _, _ => rfl
    | 13, _, _ => rfl
    | 14, _, _ => rfl
    | 15, _, _ => rfl
    | 16, _, _ => rfl
    | 17, _, _ => rfl
    | 18, _, _ => rfl
    | 19, _, _ => rfl
    | 20, _, hne => exact absurd rfl hne
    | q + 21, hq, _ => exact absurd hq (by omega))
theorem mo : ri_gO (Wd g) 0 = some (4, [.ref 1, .ref 22, .ref 43, .int (g.2.1 0), .ref 64, .int (g.2.1 1), .int (g.2.1 2), .ref 149]) := gO_of (Wd_at (by omega))
theorem mf0 {K : Value → Prop} : c_g (ri_gf (Wd g) 0 4 0) K = K (.ref 1) := gf_of mo rfl
theorem mf1 {K : Value → Prop} : c_g (ri_gf (Wd g) 0 4 1) K = K (.ref 22) := gf_of mo rfl
theorem mf2 {K : Value → Prop} : c_g (ri_gf (Wd g) 0 4 2) K = K (.ref 43) := gf_of mo rfl
theorem mf3 {K : Value → Prop} : c_g (ri_gf (Wd g) 0 4 3) K = K (.int (g.2.1 0)) := gf_of mo rfl
theorem mf4 {K : Value → Prop} : c_g (ri_gf (Wd g) 0 4 4) K = K (.ref 64) := gf_of mo rfl
theorem mf5 {K : Value → Prop} : c_g (ri_gf (Wd g) 0 4 5) K = K (.int (g.2.1 1)) := gf_of mo rfl
theorem mf6 {K : Value → Prop} : c_g (ri_gf (Wd g) 0 4 6) K = K (.int (g.2.1 2)) := gf_of mo rfl
theorem mf7 {K : Value → Prop} : c_g (ri_gf (Wd g) 0 4 7) K = K (.ref 149) := gf_of mo rfl
theorem m_o {P : Prop} : c_o (ri_gO (Wd g) 0) 4 P = P := o_of mo
def gM (g : SG) (i : Nat) (v : Int32) : SG := (g.1, upF g.2.1 i v, g.2.2)
theorem mp3 {v : Int32} {K : ri_W → Prop} : c_p (ri_pf (Wd g) 0 4 3 (.int v)) K = K (Wd (gM g 0 v)) := by
  rw [pf_of mo (by show 3 < 8; omega)]
  exact congrArg K (Wd_set (by omega) rfl (fun q hq hne => ce_cong rfl rfl hne))
theorem mp5 {v : Int32} {K : ri_W → Prop} : c_p (ri_pf (Wd g) 0 4 5 (.int v)) K = K (Wd (gM g 1 v)) := by
  rw [pf_of mo (by show 5 < 8; omega)]
  exact congrArg K (Wd_set (by omega) rfl (fun q hq hne => ce_cong rfl rfl hne))
theorem mp6 {v : Int32} {K : ri_W → Prop} : c_p (ri_pf (Wd g) 0 4 6 (.int v)) K = K (Wd (gM g 2 v)) := by
  rw [pf_of mo (by show 6 < 8; omega)]
  exact congrArg K (Wd_set (by omega) rfl (fun q hq hne => ce_cong rfl rfl hne))
theorem hs_ : ri_gS (Wd g) 64 = some (4, hist_f) := gS_of (Wd_at (by omega))
theorem xo : ri_gO (Wd g) 149 = some (3, [.int (g.2.2.1.1 0), .int (g.2.2.1.1 1), .ref 150, .ref 152, .int (g.2.2.1.1 2)]) := gO_of (Wd_at (by omega))
theorem xf0 {K : Value → Prop} : c_g (ri_gf (Wd g) 149 3 0) K = K (.int (g.2.2.1.1 0)) := gf_of xo rfl
theorem xf1 {K : Value → Prop} : c_g (ri_gf (Wd g) 149 3 1) K = K (.int (g.2.2.1.1 1)) := gf_of xo rfl
theorem xf2 {K : Value → Prop} : c_g (ri_gf (Wd g) 149 3 2) K = K (.ref 150) := gf_of xo rfl
theorem xf3 {K : Value → Prop} : c_g (ri_gf (Wd g) 149 3 3) K = K (.ref 152) := gf_of xo rfl
theorem xf4 {K : Value → Prop} : c_g (ri_gf (Wd g) 149 3 4) K = K (.int (g.2.2.1.1 2)) := gf_of xo rfl
theorem x_o {P : Prop} : c_o (ri_gO (Wd g) 149) 3 P = P := o_of xo
def gX (g : SG) (i : Nat) (v : Int32) : SG := (g.1, g.2.1, (upF g.2.2.1.1 i v, g.2.2.1.2), g.2.2.2)
def gXN (g : SG) (i : Nat) (f : Nat → Int32) : SG := (g.1, g.2.1, (g.2.2.1.1, upF g.2.2.1.2 i f), g.2.2.2)
def gD (g : SG) (i : Nat) (v : Int32) : SG := (g.1, g.2.1, g.2.2.1, (upF g.2.2.2.1 i v, g.2.2.2.2))
def gDN (g : SG) (i : Nat) (f : Nat → Int32) : SG := (g.1, g.2.1, g.2.2.1, (g.2.2.2.1, upF g.2.2.2.2 i f))
theorem xp0 {v : Int32} {K : ri_W → Prop} : c_p (ri_pf (Wd g) 149 3 0 (.int v)) K = K (Wd (gX g 0 v)) := by
  rw [pf_of xo (by show 0 < 5; omega)]
  exact congrArg K (Wd_setot (c := 0) (by omega) rfl rfl rfl (fun q hq hne => by
    match q, hq, hne with
    | 0, _, hne => exact absurd rfl hne
    | 1, _, _ => rfl
    | 2, _, _ => rfl
    | 3, _, _ => rfl
    | 4, _, _ => rfl
    | q + 5, hq, _ => exact absurd hq (by omega)))
theorem xp1 {v : Int32} {K : ri_W → Prop} : c_p (ri_pf (Wd g) 149 3 1 (.int v)) K = K (Wd (gX g 1 v)) := by
  rw [pf_of xo (by show 1 < 5; omega)]
  exact congrArg K (Wd_setot (c := 0) (by omega) rfl rfl rfl (fun q hq hne => by
    match q, hq, hne with
    | 0, _, hne => exact absurd rfl hne
    | 1, _, _ => rfl
    | 2, _, _ => rfl
    | 3, _, _ => rfl
    | 4, _, _ => rfl
    | q + 5, hq, _ => exact absurd hq (by omega)))
theorem xp4 {v : Int32} {K : ri_W → Prop} : c_p (ri_pf (Wd g) 149 3 4 (.int v)) K = K (Wd (gX g 2 v)) := by
  rw [pf_of xo (by show 4 < 5; omega)]
  exact congrArg K (Wd_setot (c := 0) (by omega) rfl rfl rfl (fun q hq hne => by
    match q, hq, hne with
    | 0, _, hne => exact absurd rfl hne
    | 1, _, _ => rfl
    | 2, _, _ => rfl
    | 3, _, _ => rfl
    | 4, _, _ => rfl
    | q + 5, hq, _ => exact absurd hq (by omega)))
theorem xno0 : ri_gO (Wd g) 150 = some (0, [.int 3, .ref 151]) := gO_of (Wd_at (by omega))
theorem xni0 : ri_gI (Wd g) 151 = some (30, g.2.2.1.2 0) := gI_of (Wd_at (by omega))
theorem xn_o0 {P : Prop} : c_o (ri_gO (Wd g) 150) 0 P = P := o_of xno0
theorem xns0 {f : Nat → Int32} : (Wd g).set 151 (ri_I 30 f) = Wd (gXN g 0 f) := Wd_setot (c := 2) (by omega) rfl rfl rfl (fun q hq hne => by
    match q, hq, hne with
    | 0, _, _ => rfl
    | 1, _, _ => rfl
    | 2, _, hne => exact absurd rfl hne
    | 3, _, _ => rfl
    | 4, _, _ => rfl
    | q + 5, hq, _ => exact absurd hq (by omega))
theorem xno1 : ri_gO (Wd g) 152 = some (0, [.int 1, .ref 153]) := gO_of (Wd_at (by omega))
theorem xni1 : ri_gI (Wd g) 153 = some (60, g.2.2.1.2 1) := gI_of (Wd_at (by omega))
theorem xn_o1 {P : Prop} : c_o (ri_gO (Wd g) 152) 0 P = P := o_of xno1
theorem xns1 {f : Nat → Int32} : (Wd g).set 153 (ri_I 60 f) = Wd (gXN g 1 f) := Wd_setot (c := 4) (by omega) rfl rfl rfl (fun q hq hne => by
    match q, hq, hne with
    | 0, _, _ => rfl
    | 1, _, _ => rfl
    | 2, _, _ => rfl
    | 3, _, _ => rfl
    | 4, _, hne => exact absurd rfl hne
    | q + 5, hq, _ => exact absurd hq (by omega))
end

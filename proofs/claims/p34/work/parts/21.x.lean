section
variable {sc : Nat × (Nat → Int32)} {w : ri_W} {Q : Option Value → ri_W → Prop}
theorem s_sizeOfAll_l {a r n : Nat} {f : Nat → Int64} (ho : ri_gO w a = some (1, [.ref r])) (hj : ri_gJ w r = some (n, f)) (hn : n < 2 ^ 31) : ∀ (d i : Nat), i + d = n → rv sc 10 4 [(0, .ref a), (1, .int (nI (sm (fun q => pcn (f q)) i))), (2, .int (nI i))] [] w Q = Q (some (.int (nI (sm (fun q => pcn (f q)) n)))) w := by
  intro d
  induction d with
  | zero =>
    intro i hi
    have h5 : ¬ nI i < Int32.ofNat n := nI_nlt (by omega) (by omega)
    have h5' : Int32.ofNat n ≤ nI i := nI_le (by omega) (by omega)
    rw [u10_4]
    simp only [↓u10_0, ↓u10_1, ↓u10_2, ↓u10_3, ↓u10_5, ↓u10_6, ↓u10_9, ↓u10_10, ↓u10_31, ↓u10_13, ↓u10_32, ↓u10_14, ↓u10_15, ↓u10_18, ↓u10_19, ↓u10_20, ↓u10_23, ↓u10_24, ↓u10_25, ↓u10_28, ↓gf_of (k := 0) ho rfl, ↓N_of (gN_J hj), h5, h5', if_true, if_false]
    rw [show i = n by omega]
  | succ d ih =>
    intro i hi
    have h5 : nI i < Int32.ofNat n := nI_lt (by omega) (by omega)
    have h5' : ¬ Int32.ofNat n ≤ nI i := nI_ge (by omega) (by omega)
    have h6 : ri_in (nI i) n = true := in_nI (by omega) hn
    have h7 : (nI i).toNatClampNeg = i := nI_clamp (by omega)
    rw [u10_4]
    simp only [↓u10_0, ↓u10_1, ↓u10_2, ↓u10_3, ↓u10_5, ↓u10_6, ↓u10_9, ↓u10_10, ↓u10_31, ↓u10_13, ↓u10_32, ↓u10_14, ↓u10_15, ↓u10_18, ↓u10_19, ↓u10_20, ↓u10_23, ↓u10_24, ↓u10_25, ↓u10_28, ↓gf_of (k := 0) ho rfl, ↓s_bitCount, ↓c_v_some, h5, h5', h6, h7, ↓N_of (gN_J hj), ↓J_of hj, if_true, if_false, nI_add, nI_1]
    exact ih (i + 1) (by omega)
theorem s_sizeOfAll {a r n : Nat} {f : Nat → Int64} (ho : ri_gO w a = some (1, [.ref r])) (hj : ri_gJ w r = some (n, f)) (hn : n < 2 ^ 31) : ev sc 10 [.ref a] w Q = Q (some (.int (nI (sm (fun q => pcn (f q)) n)))) w := by
  simp only [↓en10, ↓u10_0, ↓u10_1, ↓u10_2, ↓u10_3, ↓u10_5, ↓u10_6, ↓u10_9, ↓u10_10, ↓u10_31, ↓u10_13, ↓u10_32, ↓u10_14, ↓u10_15, ↓u10_18, ↓u10_19, ↓u10_20, ↓u10_23, ↓u10_24, ↓u10_25, ↓u10_28]
  exact s_sizeOfAll_l ho hj hn n 0 (by omega)
theorem s_clear_l {a r n : Nat} : ∀ (d i : Nat) (w : ri_W) (f : Nat → Int64), i + d = n → n < 2 ^ 31 → ri_gO w a = some (1, [.ref r]) → ri_gJ w r = some (n, f) → a ≠ r → (∀ q, q < i → f q = 0) → ∃ f', (∀ q, q < n → f' q = 0) ∧ (∀ q, n ≤ q → f' q = f q) ∧ rv sc 11 2 [(0, .ref a), (1, .int (nI i))] [] w Q = Q none (w.set r (ri_J n f')) := by
  intro d
  induction d with
  | zero =>
    intro i w f hi hn ho hj hne hz
    have h5 : ¬ nI i < Int32.ofNat n := nI_nlt (by omega) (by omega)
    have h5' : Int32.ofNat n ≤ nI i := nI_le (by omega) (by omega)
    refine ⟨f, fun q hq => hz q (by omega), fun q _ => rfl, ?_⟩
    rw [u11_2]
    simp only [↓u11_0, ↓u11_1, ↓u11_3, ↓u11_4, ↓u11_7, ↓u11_8, ↓u11_24, ↓u11_11, ↓u11_12, ↓u11_15, ↓u11_16, ↓u11_17, ↓u11_18, ↓u11_21, ↓gf_of (k := 0) ho rfl, ↓N_of (gN_J hj), h5, h5', if_true, if_false]
    congr 1
    have := ri_gJ_eq hj
    apply List.ext_getElem?
    intro q
    by_cases hq : q = r
    · subst hq
      rw [List.getElem?_set_self (List.getElem?_eq_some_iff.mp this).1]
      exact this
    · rw [List.getElem?_set_ne (Ne.symm hq)]
  | succ d ih =>
    intro i w f hi hn ho hj hne hz
    have h5 : nI i < Int32.ofNat n := nI_lt (by omega) (by omega)
    have h5' : ¬ Int32.ofNat n ≤ nI i := nI_ge (by omega) (by omega)
    have h6 : ri_in (nI i) n = true := in_nI (by omega) hn
    have h7 : (nI i).toNatClampNeg = i := nI_clamp (by omega)
    have hw := ri_gJ_eq hj
    have hlt := (List.getElem?_eq_some_iff.mp hw).1
    obtain ⟨f', g1, g2, g3⟩ := ih (i + 1) (w.set r (ri_J n (upF f i 0))) (upF f i 0) (by omega) hn (gO_of (by rw [List.getElem?_set_ne (Ne.symm hne)]; exact ri_gO_eq ho)) (gJ_of (List.getElem?_set_self hlt)) hne (fun q hq => by
      by_cases h : q = i
      · rw [h, upF_at]
      · rw [upF_ne h]; exact hz q (by omega))
    refine ⟨f', g1, fun q hq => by rw [g2 q hq, upF_ne (by omega)], ?_⟩
    rw [u11_2]
    simp only [↓u11_0, ↓u11_1, ↓u11_3, ↓u11_4, ↓u11_7, ↓u11_8, ↓u11_24, ↓u11_11, ↓u11_12, ↓u11_15, ↓u11_16, ↓u11_17, ↓u11_18, ↓u11_21, ↓gf_of (k := 0) ho rfl, h5, h5', h6, h7, ↓N_of (gN_J hj), ↓J_of hj, if_true, if_false, nI_1, upF_eqL]
    rw [g3, List.set_set]
theorem s_clear {a r n : Nat} {f : Nat → Int64} (ho : ri_gO w a = some (1, [.ref r])) (hj : ri_gJ w r = some (n, f)) (hne : a ≠ r) (hn : n < 2 ^ 31) (hz : ∀ q, n ≤ q → f q = 0) : ev sc 11 [.ref a] w Q = Q none (w.set r (ri_J n (fun _ => 0))) := by
  obtain ⟨f', g1, g2, g3⟩ := s_clear_l (sc := sc) (Q := Q) n 0 w f (by omega) hn ho hj hne (fun q hq => absurd hq (by omega))
  have hf : f' = fun _ => 0 := by
    funext q
    rcases Nat.lt_or_ge q n with h | h
    · exact g1 q h
    · rw [g2 q h, hz q h]
  simp only [↓en11, ↓u11_0, ↓u11_1, ↓u11_3, ↓u11_4, ↓u11_7, ↓u11_8, ↓u11_24, ↓u11_11, ↓u11_12, ↓u11_15, ↓u11_16, ↓u11_17, ↓u11_18, ↓u11_21]
  rw [hf] at g3
  exact g3
/-- the gaps of p between its places 0 .. n - 1: how many, how many since the last place, whether there was one -/
def gp (p : Nat → Bool) : Nat → Nat × Nat × Bool
  | 0 => (0, 0, false)
  | n + 1 => if p n = true then ((if (gp p n).2.2 = true then (gp p n).1 + (gp p n).2.1 else (gp p n).1), 0, true) else ((gp p n).1, (gp p n).2.1 + 1, (gp p n).2.2)
theorem s_gaps_l {a r n i m l : Nat} {f : Nat → Int64} (ho : ri_gO w a = some (1, [.ref r])) (hj : ri_gJ w r = some (n, f)) (hi : i < n) (hn : n < 2 ^ 31) (hml : m + l ≤ 64) : ∀ (d k : Nat), k + d = l → rv sc 8 12 [(0, .ref a), (1, .int (nI i)), (2, .int (nI m)), (3, .int (nI l)), (4, .int (nI (gp (fun q => bt6 (f i) (m + q)) k).1)), (5, .int (nI (gp (fun q => bt6 (f i) (m + q)) k).2.1)), (6, .int (if (gp (fun q => bt6 (f i) (m + q)) k).2.2 = true then 1 else 0)), (7, .int (nI (m + k)))] [] w Q = Q (some (.int (nI (gp (fun q => bt6 (f i) (m + q)) l).1))) w := by
  intro d
  induction d with
  | zero =>
    intro k hk
    have h5' : nI (m + l) ≤ nI (m + k) := nI_le (by omega) (by omega)
    rw [u8_12]
    simp only [↓u8_0, ↓u8_1, ↓u8_3, ↓u8_4, ↓u8_6, ↓u8_7, ↓u8_9, ↓u8_10, ↓u8_14, ↓u8_15, ↓u8_16, ↓u8_17, ↓u8_60, ↓u8_20, ↓u8_62, ↓u8_21, ↓u8_22, ↓u8_24, ↓u8_27, ↓u8_51, ↓u8_30, ↓u8_54, ↓u8_32, ↓u8_57, ↓u8_42, ↓u8_35, ↓u8_43, ↓u8_37, ↓u8_45, ↓u8_39, ↓u8_46, ↓u8_40, ↓u8_48, nI_add, h5', if_true]
    rw [show k = l by omega]
  | succ d ih =>
    intro k hk
    have h5' : ¬ nI (m + l) ≤ nI (m + k) := nI_ge (by omega) (by omega)
    have hh := fun Q => s_has (sc := sc) (Q := Q) (m := m + k) ho hj hi hn (by omega)
    have ih1 := ih (k + 1) (by omega)
    rw [u8_12]
    generalize hp : (fun q => bt6 (f i) (m + q)) = p at *
    have hpk : bt6 (f i) (m + k) = p k := by rw [← hp]
    have hg : gp p (k + 1) = if p k = true then ((if (gp p k).2.2 = true then (gp p k).1 + (gp p k).2.1 else (gp p k).1), 0, true) else ((gp p k).1, (gp p k).2.1 + 1, (gp p k).2.2) := rfl
    rw [hg] at ih1
    cases hb : p k <;> cases hs : (gp p k).2.2 <;> simp only [hb, hs, if_true, if_false, Bool.false_eq_true] at ih1 <;>
      simp only [↓u8_0, ↓u8_1, ↓u8_3, ↓u8_4, ↓u8_6, ↓u8_7, ↓u8_9, ↓u8_10, ↓u8_14, ↓u8_15, ↓u8_16, ↓u8_17, ↓u8_60, ↓u8_20, ↓u8_62, ↓u8_21, ↓u8_22, ↓u8_24, ↓u8_27, ↓u8_51, ↓u8_30, ↓u8_54, ↓u8_32, ↓u8_57, ↓u8_42, ↓u8_35, ↓u8_43, ↓u8_37, ↓u8_45, ↓u8_39, ↓u8_46, ↓u8_40, ↓u8_48, nI_add, h5', if_true, if_false, ↓o_of ho, ↓hh, ↓c_v_some, hpk, hb, hs, n10, n00, Bool.false_eq_true, nI_1, Nat.add_assoc] <;> exact ih1
theorem s_gaps {a r n i m l : Nat} {f : Nat → Int64} (ho : ri_gO w a = some (1, [.ref r])) (hj : ri_gJ w r = some (n, f)) (hi : i < n) (hn : n < 2 ^ 31) (hml : m + l ≤ 64) : ev sc 8 [.ref a, .int (nI i), .int (nI m), .int (nI l)] w Q = Q (some (.int (nI (gp (fun q => bt6 (f i) (m + q)) l).1))) w := by
  simp only [↓en8, ↓u8_0, ↓u8_1, ↓u8_3, ↓u8_4, ↓u8_6, ↓u8_7, ↓u8_9, ↓u8_10, ↓u8_14, ↓u8_15, ↓u8_16, ↓u8_17, ↓u8_60, ↓u8_20, ↓u8_62, ↓u8_21, ↓u8_22, ↓u8_24, ↓u8_27, ↓u8_51, ↓u8_30, ↓u8_54, ↓u8_32, ↓u8_57, ↓u8_42, ↓u8_35, ↓u8_43, ↓u8_37, ↓u8_45, ↓u8_39, ↓u8_46, ↓u8_40, ↓u8_48]
  exact s_gaps_l ho hj hi hn hml l 0 (by omega)
end

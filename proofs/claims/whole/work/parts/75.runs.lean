/-! THE LAW: all rounds -/
section
variable {g : SG}
theorem and31 (x : Int32) : ∃ k, k < 32 ∧ x &&& 31 = nI k := by
  refine ⟨x.toBitVec.toNat % 32, Nat.mod_lt _ (by decide), ?_⟩
  apply Int32.toBitVec_inj.mp
  apply BitVec.eq_of_toNat_eq
  rw [Int32.toBitVec_and, BitVec.toNat_and]
  rw [show (31 : Int32).toBitVec.toNat = 2 ^ 5 - 1 from rfl, Nat.and_two_pow_sub_one_eq_mod]
  show _ = (BitVec.ofNat 32 (x.toBitVec.toNat % 32)).toNat
  rw [BitVec.toNat_ofNat]
  omega
theorem lt6 {L i : Nat} (hL : L ≤ 3072) (hi : i ≤ 3078) : (nI L - 6 < nI i) = (L < i + 6) := by
  apply propext
  by_cases h : 6 ≤ L
  · rw [show (6 : Int32) = nI 6 from rfl, nI_sub h, nI_ltI (by omega) (by omega)]
    omega
  · have h1 : nI L - 6 < 0 := by
      have : L = 0 ∨ L = 1 ∨ L = 2 ∨ L = 3 ∨ L = 4 ∨ L = 5 := by omega
      rcases this with rfl | rfl | rfl | rfl | rfl | rfl <;> decide
    have h2 : ¬ nI i < 0 := nI_pos (by omega)
    constructor
    · intro _
      omega
    · intro _
      exact Int32.lt_of_lt_of_le h1 (Int32.not_lt.mp h2)
theorem law_end {L : Nat} {xs : Nat → Int32} {i : Nat} {Q : Option Value → ri_W → Prop} (hL : L ≤ 3072) (hi : i ≤ 3078) (h : L < i + 6) : rv (L, xs) 179 18 [(0, .retAddr 0), (1, .ref 0), (2, .ref 154), (3, .int (nI i))] [] (Wd g) Q = Q (some (.int 1)) (Wd g) := by
  have k1 : (Int32.ofNat L - 6 < nI i) = True := (lt6 hL hi).trans (eq_true h)
  rw [u179_18]
  simp only [↓u179_19, ↓u179_20, ↓u179_21, ↓u179_23, ↓u179_24, k1, if_true, ↓u179_1185, ↓u179_1186, ↓c_b_1]
theorem law_more {L : Nat} {xs : Nat → Int32} {i : Nat} (hL : L ≤ 3072) (h : i + 6 ≤ L) (hR : R g) : ∃ g', R g' ∧ ∀ Q, rv (L, xs) 179 18 [(0, .retAddr 0), (1, .ref 0), (2, .ref 154), (3, .int (nI i))] [] (Wd g) Q = rv (L, xs) 179 18 [(0, .retAddr 0), (1, .ref 0), (2, .ref 154), (3, .int (nI (i + 6)))] [] (Wd g') Q := by
  have k1 : (Int32.ofNat L - 6 < nI i) = False := (lt6 hL (by omega)).trans (eq_false (by omega))
  have hin : ∀ j, j < 6 → ri_in (nI i + nI j) L = true := fun j hj => by
    rw [nI_add]
    exact nAt (by omega) (by omega)
  have h0 : ri_in (nI i) L = true := nAt (by omega) (by omega)
  have h1 := hin 1 (by decide)
  have h2 := hin 2 (by decide)
  have h3 := hin 3 (by decide)
  have h4 := hin 4 (by decide)
  have h5 := hin 5 (by decide)
  have e6 : nI (i + 6) = nI i + 6 := by rw [show (6 : Int32) = nI 6 from rfl, nI_add]
  obtain ⟨k, hk, ek⟩ := and31 (xs i)
  have hbeg : ∀ Q, rv (L, xs) 179 18 [(0, .retAddr 0), (1, .ref 0), (2, .ref 154), (3, .int (nI i))] [] (Wd g) Q = rv (L, xs) 179 33 [(0, .retAddr 0), (1, .ref 0), (2, .ref 154), (3, .int (nI i))] [.int (nI k)] (Wd g) Q := fun Q => by
    rw [u179_18, ← ek]
    have hc := nI_clamp (show i < 2 ^ 31 by omega)
    simp only [↓u179_19, ↓u179_20, ↓u179_21, ↓u179_23, ↓u179_24, k1, if_false, ↓u179_27, ↓u179_28, ↓u179_29, h0, if_true, ↓u179_30, ↓u179_32, hc]
  have hgo : ∃ g', R g' ∧ ∀ Q, rv (L, xs) 179 33 [(0, .retAddr 0), (1, .ref 0), (2, .ref 154), (3, .int (nI i))] [.int (nI k)] (Wd g) Q = rv (L, xs) 179 18 [(0, .retAddr 0), (1, .ref 0), (2, .ref 154), (3, .int (nI i + 6))] [] (Wd g') Q := by
    clear ek hbeg
    match k, hk with
    | 0, _ => exact law_k0 (sc := (L, xs)) (i := nI i) hR h1 h2 h3 h4 h5
    | 1, _ => exact law_k1 (sc := (L, xs)) (i := nI i) hR h1 h2 h3 h4 h5
    | 2, _ => exact law_k2 (sc := (L, xs)) (i := nI i) hR h1 h2 h3 h4 h5
    | 3, _ => exact law_k3 (sc := (L, xs)) (i := nI i) hR h1 h2 h3 h4 h5
    | 4, _ => exact law_k4 (sc := (L, xs)) (i := nI i) hR h1 h2 h3 h4 h5
    | 5, _ => exact law_k5 (sc := (L, xs)) (i := nI i) hR h1 h2 h3 h4 h5
    | 6, _ => exact law_k6 (sc := (L, xs)) (i := nI i) hR h1 h2 h3 h4 h5
    | 7, _ => exact law_k7 (sc := (L, xs)) (i := nI i) hR h1 h2 h3 h4 h5
    | 8, _ => exact law_k8 (sc := (L, xs)) (i := nI i) hR h1 h2 h3 h4 h5
    | 9, _ => exact law_k9 (sc := (L, xs)) (i := nI i) hR h1 h2 h3 h4 h5
    | 10, _ => exact law_k10 (sc := (L, xs)) (i := nI i) hR h1 h2 h3 h4 h5
    | 11, _ => exact law_k11 (sc := (L, xs)) (i := nI i) hR h1 h2 h3 h4 h5
    | 12, _ => exact law_k12 (sc := (L, xs)) (i := nI i) hR h1 h2 h3 h4 h5
    | 13, _ => exact law_k13 (sc := (L, xs)) (i := nI i) hR h1 h2 h3 h4 h5
    | 14, _ => exact law_k14 (sc := (L, xs)) (i := nI i) hR h1 h2 h3 h4 h5
    | 15, _ => exact law_k15 (sc := (L, xs)) (i := nI i) hR h1 h2 h3 h4 h5
    | 16, _ => exact law_k16 (sc := (L, xs)) (i := nI i) hR h1 h2 h3 h4 h5
    | 17, _ => exact law_k17 (sc := (L, xs)) (i := nI i) hR h1 h2 h3 h4 h5
    | 18, _ => exact law_k18 (sc := (L, xs)) (i := nI i) hR h1 h2 h3 h4 h5
    | 19, _ => exact law_k19 (sc := (L, xs)) (i := nI i) hR h1 h2 h3 h4 h5
    | 20, _ => exact law_k20 (sc := (L, xs)) (i := nI i) hR h1 h2 h3 h4 h5
    | 21, _ => exact law_k21 (sc := (L, xs)) (i := nI i) hR h1 h2 h3 h4 h5
    | 22, _ => exact law_k22 (sc := (L, xs)) (i := nI i) hR h1 h2 h3 h4 h5
    | 23, _ => exact law_k23 (sc := (L, xs)) (i := nI i) hR h1 h2 h3 h4 h5
    | 24, _ => exact law_k24 (sc := (L, xs)) (i := nI i) hR h1 h2 h3 h4 h5
    | 25, _ => exact law_k25 (sc := (L, xs)) (i := nI i) hR h1 h2 h3 h4 h5
    | 26, _ => exact law_k26 (sc := (L, xs)) (i := nI i) hR h1 h2 h3 h4 h5
    | 27, _ => exact law_k27 (sc := (L, xs)) (i := nI i) hR h1 h2 h3 h4 h5
    | 28, _ => exact law_k28 (sc := (L, xs)) (i := nI i) hR h1 h2 h3 h4 h5
    | 29, _ => exact law_k29 (sc := (L, xs)) (i := nI i) hR h1 h2 h3 h4 h5
    | 30, _ => exact law_k30 (sc := (L, xs)) (i := nI i) hR h1 h2 h3 h4 h5
    | 31, _ => exact law_k31 (sc := (L, xs)) (i := nI i) hR
    | k + 32, hk => exact absurd hk (by omega)
  obtain ⟨g', r1, r2⟩ := hgo
  refine ⟨g', r1, fun Q => ?_⟩
  rw [hbeg, r2, e6]
theorem law_all {L : Nat} {xs : Nat → Int32} (hL : L ≤ 3072) : ∀ (d i : Nat) (g : SG), R g → L ≤ i + d → i ≤ 3078 → ∃ g', ∀ Q, rv (L, xs) 179 18 [(0, .retAddr 0), (1, .ref 0), (2, .ref 154), (3, .int (nI i))] [] (Wd g) Q = Q (some (.int 1)) (Wd g') := by
  intro d
  induction d using Nat.strongRecOn with
  | _ d ih =>
    intro i g hR hd hi
    by_cases h : L < i + 6
    · exact ⟨g, fun Q => law_end hL hi h⟩
    · obtain ⟨g1, r1, r2⟩ := law_more (xs := xs) hL (show i + 6 ≤ L by omega) hR
      obtain ⟨g2, s2⟩ := ih (d - 6) (by omega) (i + 6) g1 r1 (by omega) (by omega)
      exact ⟨g2, fun Q => (r2 Q).trans (s2 Q)⟩
theorem ns_map {f : Nat → ri_E} {M : Nat} (h : ∀ q, ri_sz (f q) ≤ M) : ∀ l : List Nat, ri_ns (l.map f) ≤ l.length * M
  | [] => Nat.zero_le _
  | q :: l => by
    have h1 := ns_map h l
    have h2 := h q
    unfold ri_ns at h1 ⊢
    simp only [List.map_cons, List.sum_cons, List.length_cons]
    rw [Nat.succ_mul]
    omega
theorem sz_st {s : SV} {B c : Nat} : ri_sz (st_cell s B c) ≤ 20000 := by
  unfold st_cell
  split <;> exact Nat.le_of_ble_eq_true rfl
theorem sz_ot {c : Nat} : ri_sz (ot_cell g c) ≤ 20000 := by
  unfold ot_cell
  split <;> exact Nat.le_of_ble_eq_true rfl
theorem sz_ce {k : Nat} : ri_sz (ce g k) ≤ 20000 := by
  unfold ce
  split
  · exact Nat.le_of_ble_eq_true rfl
  · split
    · exact sz_st
    · split
      · exact Nat.le_of_ble_eq_true rfl
      · split
        · exact sz_st
        · exact sz_ot
theorem law_runs {L : Nat} {xs : Nat → Int32} (hL : L ≤ 3072) : ∃ n w', ri_run (L, xs) n 179 (0, [(0, .retAddr 0)], [], []) = some (some (.int 1), w') ∧ w'.length ≤ 600000 ∧ ri_ns w' ≤ 7302250 := by
  obtain ⟨g', hg⟩ := law_all (xs := xs) hL L 0 g00 R00 (by omega) (by omega)
  have hQ : rv (L, xs) 179 0 [(0, .retAddr 0)] [] [] (fun v w => v = some (.int 1) ∧ w.length ≤ 600000 ∧ ri_ns w ≤ 7302250) := by
    rw [law_begin]
    have := hg (fun v w => v = some (.int 1) ∧ w.length ≤ 600000 ∧ ri_ns w ≤ 7302250)
    rw [show (0 : Int32) = nI 0 from rfl, this]
    refine ⟨rfl, by rw [Wd_len]; decide, ?_⟩
    have h1 := ns_map (f := ce g') (M := 20000) (fun q => sz_ce) (List.range 158)
    rw [List.length_range] at h1
    exact Nat.le_trans h1 (by decide)
  obtain ⟨n, x, h1, h2, h3, h4⟩ := hQ
  refine ⟨n, x.2, ?_, h3, h4⟩
  rw [h1]
  obtain ⟨x1, x2⟩ := x
  cases h2
  rfl
end

theorem nI_6 : (6 : Int32) = nI 6 := rfl
section
variable {sc : Nat × (Nat → Int32)} {w : ri_W} {Q : Option Value → ri_W → Prop}
def ii (v a b : Int32) : Int32 := if v < a then 0 else if b < v then 0 else 1
theorem s_isIn {v a b : Int32} : ev sc 92 [.int v, .int a, .int b] w Q = Q (some (.int (ii v a b))) w := by
  unfold ii
  simp only [↓en92, ↓u92_0, ↓u92_1, ↓u92_2, ↓u92_14, ↓u92_5, ↓u92_15, ↓u92_6, ↓u92_7, ↓u92_10, ↓u92_11, ↓c_b_0, ↓c_b_1]
  split
  · rfl
  · split <;> rfl
theorem ii_in {k n : Nat} (h : k < n) (hn : n < 2 ^ 31) : ii (nI k) 0 (nI n - 1) = 1 := by
  obtain ⟨d, rfl⟩ : ∃ d, n = d + 1 := ⟨n - 1, by omega⟩
  unfold ii
  rw [nI_pred, if_neg (nI_pos (by omega)), if_neg (nI_nlt (by omega) (by omega))]
theorem ii_out {v : Int32} {n : Nat} (hn : n < 2 ^ 31) (h : ∀ k, k < n → v ≠ nI k) : ii v 0 (nI n - 1) = 0 := by
  unfold ii
  rcases pk_ix v hn with h1 | h1 | ⟨j, hj, rfl⟩
  · rw [if_pos h1]
  · split
    · rfl
    · cases n with
      | zero =>
        rw [if_pos]
        rename_i h0
        have : (0 : Int32) ≤ v := Int32.not_lt.mp h0
        exact Int32.lt_of_lt_of_le (by decide) this
      | succ d =>
        rw [nI_pred, if_pos]
        exact Int32.lt_of_lt_of_le (nI_lt (by omega) (by omega)) h1
  · exact absurd rfl (h j hj)
theorem in_nI {i n : Nat} (h : i < n) (hn : n < 2 ^ 31) : ri_in (nI i) n = true := by
  unfold ri_in
  exact decide_eq_true (nI_in h hn)
theorem n10 : ((1 : Int32) = 0) = False := eq_false (by decide)
theorem n00 : ((0 : Int32) = 0) = True := eq_true rfl
theorem bt6_lN {n i : Nat} (hn : n < 2 ^ 64) : bt6 (lN n) i = n.testBit i := by
  show (lN n).toBitVec.toNat.testBit i = _
  rw [wb_tn hn]
theorem pcn_lN {n : Nat} (hn : n < 2 ^ 64) : pcn (lN n) = ct (fun i => n.testBit i) 64 := ct_cong (fun i _ => bt6_lN hn)
theorem pcn_le (x : Int64) : pcn x ≤ 64 := ct_le _ _
theorem s_bitCount {x : Int64} : ev sc 178 [.long x] w Q = Q (some (.int (nI (pcn x)))) w := by
  simp only [↓en178, ↓u178_0, ↓u178_1, ↓u178_2, ↓u178_3, ↓u178_4, ↓u178_7, ↓u178_8, ↓u178_9, ↓u178_10, ↓u178_11, ↓u178_14, ↓u178_15, ↓u178_16, ↓u178_17, ↓u178_18, ↓u178_21, ↓u178_22, ↓u178_23, ↓u178_24, ↓u178_25, ↓u178_26, ↓u178_27, ↓u178_28, ↓u178_29, ↓u178_32, ↓u178_33, ↓u178_34, ↓u178_35, ↓u178_36, ↓u178_38, ↓u178_39, ↓u178_40, ↓u178_41, ↓u178_42, ↓u178_43, ↓u178_45, ↓u178_46, ↓u178_47, ↓u178_48, ↓u178_49, ↓u178_50, ↓u178_52, ↓u178_53, ↓u178_54, ↓u178_55, ↓u178_56, ↓u178_57, ↓u178_59, ↓u178_60]
  obtain ⟨n, hn, rfl⟩ := wb_of x
  rw [pcn_lN hn]
  obtain ⟨v1, v2, v3, v4, v5, v6, h1, rfl, h3, rfl, h5, rfl, rfl, rfl, rfl, h7, h8⟩ := nat_pop hn
  have k1 : ∀ v, v < 2 ^ 64 → ((lN v).toUInt64 >>> ((1 : Int32).toInt64.toUInt64 &&& Int64.toUInt64 63)).toInt64 = lN (v / 2) := fun v hv => wb_shr (k := 1) hv (by decide)
  have k2 : ∀ v, v < 2 ^ 64 → ((lN v).toUInt64 >>> ((2 : Int32).toInt64.toUInt64 &&& Int64.toUInt64 63)).toInt64 = lN (v / 4) := fun v hv => wb_shr (k := 2) hv (by decide)
  have k4 : ∀ v, v < 2 ^ 64 → ((lN v).toUInt64 >>> ((4 : Int32).toInt64.toUInt64 &&& Int64.toUInt64 63)).toInt64 = lN (v / 16) := fun v hv => wb_shr (k := 4) hv (by decide)
  have k8 : ∀ v, v < 2 ^ 64 → ((lN v).toUInt64 >>> ((8 : Int32).toInt64.toUInt64 &&& Int64.toUInt64 63)).toInt64 = lN (v / 256) := fun v hv => wb_shr (k := 8) hv (by decide)
  have k16 : ∀ v, v < 2 ^ 64 → ((lN v).toUInt64 >>> ((16 : Int32).toInt64.toUInt64 &&& Int64.toUInt64 63)).toInt64 = lN (v / 65536) := fun v hv => wb_shr (k := 16) hv (by decide)
  have k32 : ∀ v, v < 2 ^ 64 → ((lN v).toUInt64 >>> ((32 : Int32).toInt64.toUInt64 &&& Int64.toUInt64 63)).toInt64 = lN (v / 4294967296) := fun v hv => wb_shr (k := 32) hv (by decide)
  have m5 : ∀ v, v < 2 ^ 64 → lN v &&& 6148914691236517205 = lN (v &&& 6148914691236517205) := fun v hv => wb_and hv (by decide)
  have m3 : ∀ v, v < 2 ^ 64 → lN v &&& 3689348814741910323 = lN (v &&& 3689348814741910323) := fun v hv => wb_and hv (by decide)
  have mf : ∀ v, v < 2 ^ 64 → lN v &&& 1085102592571150095 = lN (v &&& 1085102592571150095) := fun v hv => wb_and hv (by decide)
  have hv1 : lN n - (((lN n).toUInt64 >>> ((1 : Int32).toInt64.toUInt64 &&& Int64.toUInt64 63)).toInt64 &&& 6148914691236517205) = lN (n - (n / 2 &&& 6148914691236517205)) := by
    rw [k1 n hn, m5 _ (by omega), lN_sub h1]
  generalize n - (n / 2 &&& 6148914691236517205) = v1 at *
  have hv2 : (lN v1 &&& 3689348814741910323) + (((lN v1).toUInt64 >>> ((2 : Int32).toInt64.toUInt64 &&& Int64.toUInt64 63)).toInt64 &&& 3689348814741910323) = lN ((v1 &&& 3689348814741910323) + (v1 / 4 &&& 3689348814741910323)) := by
    rw [k2 v1 h3, m3 _ h3, m3 _ (by omega), lN_add]
  generalize (v1 &&& 3689348814741910323) + (v1 / 4 &&& 3689348814741910323) = v2 at *
  have hv3 : (lN v2 + ((lN v2).toUInt64 >>> ((4 : Int32).toInt64.toUInt64 &&& Int64.toUInt64 63)).toInt64) &&& 1085102592571150095 = lN (v2 + v2 / 16 &&& 1085102592571150095) := by
    rw [k4 v2 (by omega), lN_add, mf _ h5]
  generalize (v2 + v2 / 16 &&& 1085102592571150095) = v3 at *
  have hv4 : lN v3 + ((lN v3).toUInt64 >>> ((8 : Int32).toInt64.toUInt64 &&& Int64.toUInt64 63)).toInt64 = lN (v3 + v3 / 256) := by
    rw [k8 v3 (by omega), lN_add]
  generalize v3 + v3 / 256 = v4 at *
  have hv5 : lN v4 + ((lN v4).toUInt64 >>> ((16 : Int32).toInt64.toUInt64 &&& Int64.toUInt64 63)).toInt64 = lN (v4 + v4 / 65536) := by
    rw [k16 v4 (by omega), lN_add]
  generalize v4 + v4 / 65536 = v5 at *
  have hv6 : lN v5 + ((lN v5).toUInt64 >>> ((32 : Int32).toInt64.toUInt64 &&& Int64.toUInt64 63)).toInt64 = lN (v5 + v5 / 4294967296) := by
    rw [k32 v5 (by omega), lN_add]
  generalize v5 + v5 / 4294967296 = v6 at *
  rw [hv1, hv2, hv3, hv4, hv5, hv6, lN_i, ← h8]
  have : nI v6 &&& 127 = nI (v6 % 128) := by
    rw [pk_and (nI v6) (m := 127) 7 (by decide)]
    show nI ((BitVec.ofNat 32 v6).toNat % 2 ^ 7) = _
    rw [BitVec.toNat_ofNat]
    congr 1
    omega
  rw [this]
/-! Numbers -/
theorem s_nget {a r wd n i k : Nat} {f : Nat → Int32} (ho : ri_gO w a = some (0, [.int (nI wd), .ref r])) (hi : ri_gI w r = some (n, f)) (hk : k < wd) (hn : n < 2 ^ 31) (hwd : wd < 2 ^ 31) (hb2 : i * wd + k < 2 ^ 31) : ev sc 1 [.ref a, .int (nI i), .int (nI k)] w Q = Q (some (.int (if i * wd + k < n then f (i * wd + k) else 0))) w := by
  have h1 : ¬ nI k < 0 := nI_pos (by omega)
  have h1' : ¬ nI wd ≤ nI k := nI_ge hk hwd
  have h2 : nI i * nI wd + nI k = nI (i * wd + k) := by rw [pk_mul, nI_add]
  have h3 : ¬ nI (i * wd + k) < 0 := nI_pos hb2
  have h7 : (nI (i * wd + k)).toNatClampNeg = i * wd + k := nI_clamp (by omega)
  by_cases hb : i * wd + k < n
  · have h5 : nI (i * wd + k) < Int32.ofNat n := nI_lt hb hn
    have h5' : ¬ Int32.ofNat n ≤ nI (i * wd + k) := nI_ge hb hn
    have h6 : ri_in (nI (i * wd + k)) n = true := in_nI hb hn
    simp only [↓en1, ↓u1_0, ↓u1_1, ↓u1_2, ↓u1_5, ↓u1_6, ↓u1_7, ↓u1_8, ↓u1_9, ↓u1_10, ↓u1_34, ↓u1_13, ↓u1_35, ↓u1_14, ↓u1_15, ↓u1_18, ↓u1_21, ↓u1_22, ↓u1_25, ↓u1_26, ↓u1_27, ↓u1_30, ↓u1_31, ↓u1_36, ↓u1_37, ↓u1_40, ↓u1_41, ↓u1_42, ↓gf_of (k := 0) ho rfl, ↓gf_of (k := 1) ho rfl, h1, h1', h2, h3, h5, h5', h6, h7, ↓N_of (gN_I hi), ↓I_of hi, if_true, if_false, hb]
  · have h5 : ¬ nI (i * wd + k) < Int32.ofNat n := nI_nlt (by omega) hb2
    have h5' : Int32.ofNat n ≤ nI (i * wd + k) := nI_le (by omega) hb2
    simp only [↓en1, ↓u1_0, ↓u1_1, ↓u1_2, ↓u1_5, ↓u1_6, ↓u1_7, ↓u1_8, ↓u1_9, ↓u1_10, ↓u1_34, ↓u1_13, ↓u1_35, ↓u1_14, ↓u1_15, ↓u1_18, ↓u1_21, ↓u1_22, ↓u1_25, ↓u1_26, ↓u1_27, ↓u1_30, ↓u1_31, ↓u1_36, ↓u1_37, ↓u1_40, ↓u1_41, ↓u1_42, ↓gf_of (k := 0) ho rfl, ↓gf_of (k := 1) ho rfl, h1, h1', h2, h3, h5, h5', h7, ↓N_of (gN_I hi), ↓I_of hi, if_true, if_false, hb]
theorem s_nset {a r wd n i k : Nat} {f : Nat → Int32} {v : Int32} (ho : ri_gO w a = some (0, [.int (nI wd), .ref r])) (hi : ri_gI w r = some (n, f)) (hk : k < wd) (hb : i * wd + k < n) (hn : n < 2 ^ 31) (hwd : wd < 2 ^ 31) : ev sc 2 [.ref a, .int (nI i), .int (nI k), .int v] w Q = Q none (w.set r (ri_I n (upF f (i * wd + k) v))) := by
  have h1 : ¬ nI k < 0 := nI_pos (by omega)
  have h1' : ¬ nI wd ≤ nI k := nI_ge hk hwd
  have h2 : nI i * nI wd + nI k = nI (i * wd + k) := by rw [pk_mul, nI_add]
  have h3 : ¬ nI (i * wd + k) < 0 := nI_pos (by omega)
  have h7 : (nI (i * wd + k)).toNatClampNeg = i * wd + k := nI_clamp (by omega)
  have h5 : nI (i * wd + k) < Int32.ofNat n := nI_lt hb hn
  have h5' : ¬ Int32.ofNat n ≤ nI (i * wd + k) := nI_ge hb hn
  have h6 : ri_in (nI (i * wd + k)) n = true := in_nI hb hn
  simp only [↓en2, ↓u2_0, ↓u2_1, ↓u2_2, ↓u2_5, ↓u2_6, ↓u2_7, ↓u2_8, ↓u2_10, ↓u2_11, ↓u2_45, ↓u2_14, ↓u2_15, ↓u2_16, ↓u2_19, ↓u2_22, ↓u2_24, ↓u2_27, ↓u2_29, ↓u2_30, ↓u2_33, ↓u2_34, ↓u2_37, ↓u2_38, ↓u2_41, ↓u2_43, ↓u2_44, ↓gf_of (k := 0) ho rfl, ↓gf_of (k := 1) ho rfl, h1, h1', h2, h3, h5, h5', h6, h7, ↓N_of (gN_I hi), ↓I_of hi, if_true, if_false, upF_eq]
theorem min_self (n : Nat) : (if Int32.ofNat n < Int32.ofNat n then Int32.ofNat n else Int32.ofNat n) = nI n := by
  split <;> rfl
theorem s_ncopy {a r a2 r2 n : Nat} {v v2 : Value} {f f2 : Nat → Int32} (ho : ri_gO w a = some (0, [v, .ref r])) (hi : ri_gI w r = some (n, f)) (ho2 : ri_gO w a2 = some (0, [v2, .ref r2])) (hi2 : ri_gI w r2 = some (n, f2)) (hn : n < 2 ^ 31) : ev sc 3 [.ref a, .ref a2] w Q = Q none (w.set r (ri_I n (va_cpy f2 f 0 0 n))) := by
  have hc : ri_cpw w r2 r 0 0 (nI n) = some (w.set r (ri_I n (va_cpy f2 f 0 0 n))) := by
    have h7 : (nI n).toNatClampNeg = n := nI_clamp hn
    have := ri_cpw_I (sp := 0) (dp := 0) (n := nI n) hi2 hi ⟨by decide, by decide, nI_pos hn, by rw [h7]; show 0 + n ≤ n; omega, by rw [h7]; show 0 + n ≤ n; omega⟩
    rw [h7] at this
    exact this
  simp only [↓en3, ↓u3_0, ↓u3_1, ↓u3_4, ↓u3_5, ↓u3_6, ↓u3_9, ↓u3_10, ↓u3_13, ↓u3_14, ↓u3_15, ↓u3_18, ↓u3_19, ↓u3_20, ↓u3_23, ↓u3_24, ↓u3_25, ↓u3_28, ↓gf_of (k := 1) ho rfl, ↓gf_of (k := 1) ho2 rfl, ↓N_of (gN_I hi), ↓N_of (gN_I hi2), min_self, hc, c_p_some]
/-! Sets -/
theorem s_size {a r n i : Nat} {f : Nat → Int64} (ho : ri_gO w a = some (1, [.ref r])) (hj : ri_gJ w r = some (n, f)) (hi : i < n) (hn : n < 2 ^ 31) : ev sc 6 [.ref a, .int (nI i)] w Q = Q (some (.int (nI (pcn (f i))))) w := by
  have h3 : ¬ nI i < 0 := nI_pos (by omega)
  have h5 : nI i < Int32.ofNat n := nI_lt hi hn
  have h6 : ri_in (nI i) n = true := in_nI hi hn
  have h7 : (nI i).toNatClampNeg = i := nI_clamp (by omega)
  simp only [↓en6, ↓u6_0, ↓u6_1, ↓u6_13, ↓u6_4, ↓u6_14, ↓u6_5, ↓u6_26, ↓u6_6, ↓u6_9, ↓u6_10, ↓u6_17, ↓u6_18, ↓u6_21, ↓u6_22, ↓u6_23, ↓gf_of (k := 0) ho rfl, ↓s_bitCount, ↓c_v_some, h3, h5, h6, h7, ↓N_of (gN_J hj), ↓J_of hj, if_true, if_false]
theorem pcn_within {x : Int64} {m l : Nat} (hm : m < 64) (hl : l < 64) : pcn ((x.toUInt64 >>> ((nI m).toInt64.toUInt64 &&& Int64.toUInt64 63)).toInt64 &&& ((1 <<< ((nI l).toInt64 &&& 63)) - 1)) = ct (fun q => bt6 x (m + q)) l := by
  obtain ⟨n, hn, rfl⟩ := wb_of x
  have h1 : (1 : Int64) <<< ((nI l).toInt64 &&& 63) - 1 = lN (2 ^ l - 1) := by
    have := wb_shl 1 hl
    rw [show (1 : Int64) = lN 1 from rfl, this, Nat.one_mul]
    exact lN_sub Nat.one_le_two_pow
  rw [h1, wb_shr hn hm, wb_mask (Nat.lt_of_le_of_lt (Nat.div_le_self _ _) hn) hl, pcn_lN (Nat.lt_of_le_of_lt (Nat.mod_le _ _) (Nat.lt_of_le_of_lt (Nat.div_le_self _ _) hn))]
  rw [show (64 : Nat) = l + (64 - l) by omega, ct_split]
  have h2 : ct (fun k => (n / 2 ^ m % 2 ^ l).testBit (l + k)) (64 - l) = 0 := ct_zero (fun k _ => by rw [Nat.testBit_mod_two_pow]; simp; intro h; omega)
  rw [h2, Nat.add_zero]
  apply ct_cong
  intro k hk
  rw [Nat.testBit_mod_two_pow, Nat.testBit_div_two_pow, bt6_lN hn]
  simp [hk, Nat.add_comm]
theorem s_within {a r n i m l : Nat} {f : Nat → Int64} (ho : ri_gO w a = some (1, [.ref r])) (hj : ri_gJ w r = some (n, f)) (hi : i < n) (hn : n < 2 ^ 31) (hm : m < 64) (hl : l < 64) : ev sc 7 [.ref a, .int (nI i), .int (nI m), .int (nI l)] w Q = Q (some (.int (nI (ct (fun q => bt6 (f i) (m + q)) l)))) w := by
  have h3 : ¬ nI i < 0 := nI_pos (by omega)
  have h5 : nI i < Int32.ofNat n := nI_lt hi hn
  have h6 : ri_in (nI i) n = true := in_nI hi hn
  have h7 : (nI i).toNatClampNeg = i := nI_clamp (by omega)
  simp only [↓en7, ↓u7_0, ↓u7_1, ↓u7_13, ↓u7_4, ↓u7_14, ↓u7_5, ↓u7_6, ↓u7_9, ↓u7_10, ↓u7_15, ↓u7_16, ↓u7_17, ↓u7_18, ↓u7_19, ↓u7_20, ↓u7_22, ↓u7_23, ↓u7_26, ↓u7_27, ↓u7_28, ↓u7_29, ↓u7_30, ↓u7_32, ↓u7_33, ↓u7_36, ↓gf_of (k := 0) ho rfl, ↓s_bitCount, ↓c_v_some, h3, h5, h6, h7, ↓N_of (gN_J hj), ↓J_of hj, if_true, if_false, pcn_within hm hl]
theorem has_bit {x : Int64} {m : Nat} (hm : m < 64) : (lg_cmp ((x.toUInt64 >>> ((nI m).toInt64.toUInt64 &&& Int64.toUInt64 63)).toInt64 &&& 1) 0 = 0) = (bt6 x m = false) := by
  obtain ⟨n, hn, rfl⟩ := wb_of x
  rw [wb_bit hn hm, bt6_lN hn, Nat.testBit_eq_decide_div_mod_eq]
  rcases Nat.mod_two_eq_zero_or_one (n / 2 ^ m) with h | h
  · rw [h]
    decide
  · rw [h]
    decide
theorem s_has {a r n i m : Nat} {f : Nat → Int64} (ho : ri_gO w a = some (1, [.ref r])) (hj : ri_gJ w r = some (n, f)) (hi : i < n) (hn : n < 2 ^ 31) (hm : m < 64) : ev sc 5 [.ref a, .int (nI i), .int (nI m)] w Q = Q (some (.int (if bt6 (f i) m = true then 1 else 0))) w := by
  have h3 : ¬ nI i < 0 := nI_pos (by omega)
  have h5 : nI i < Int32.ofNat n := nI_lt hi hn
  have h5' : ¬ Int32.ofNat n ≤ nI i := nI_ge hi hn
  have h6 : ri_in (nI i) n = true := in_nI hi hn
  have h7 : (nI i).toNatClampNeg = i := nI_clamp (by omega)
  simp only [↓en5, ↓u5_0, ↓u5_1, ↓u5_32, ↓u5_4, ↓u5_33, ↓u5_5, ↓u5_6, ↓u5_9, ↓u5_10, ↓u5_13, ↓u5_14, ↓u5_17, ↓u5_18, ↓u5_19, ↓u5_20, ↓u5_21, ↓u5_22, ↓u5_23, ↓u5_24, ↓u5_25, ↓u5_28, ↓u5_29, ↓gf_of (k := 0) ho rfl, h3, h5, h5', h6, h7, ↓N_of (gN_J hj), ↓J_of hj, if_true, if_false, has_bit hm]
  cases bt6 (f i) m
  · simp only [↓c_b_0, if_true, if_false, Bool.false_eq_true]
  · simp only [↓c_b_1, if_true, if_false, Bool.true_eq_false]
def setb (x : Int64) (m : Nat) (b : Bool) : Int64 := if b = true then x ||| (1 <<< ((nI m).toInt64 &&& 63)) else x &&& ((1 <<< ((nI m).toInt64 &&& 63)) ^^^ (-1))
theorem tw64 : ∀ l, l < 64 → ((1 : Int64) <<< ((nI l).toInt64 &&& 63)).toBitVec = BitVec.twoPow 64 l := by decide +kernel
theorem bt6_setb {x : Int64} {m q : Nat} {b : Bool} (hm : m < 64) (hq : q < 64) : bt6 (setb x m b) q = if q = m then b else bt6 x q := by
  unfold bt6 setb
  cases b
  · rw [if_neg (by decide), Int64.toBitVec_and, Int64.toBitVec_xor, tw64 m hm, show (-1 : Int64).toBitVec = BitVec.allOnes 64 from rfl, BitVec.getLsbD_and, BitVec.getLsbD_xor, BitVec.getLsbD_twoPow, BitVec.getLsbD_allOnes]
    by_cases h : q = m
    · subst h
      simp [hq]
    · simp [hq, h, Ne.symm h]
  · rw [if_pos rfl, Int64.toBitVec_or, tw64 m hm, BitVec.getLsbD_or, BitVec.getLsbD_twoPow]
    by_cases h : q = m
    · subst h
      simp [hq]
    · simp [h, Ne.symm h]
theorem bt6_big {x : Int64} {q : Nat} (h : 64 ≤ q) : bt6 x q = false := BitVec.getLsbD_of_ge _ _ h
theorem s_set {a r n i m : Nat} {f : Nat → Int64} {b : Int32} (ho : ri_gO w a = some (1, [.ref r])) (hj : ri_gJ w r = some (n, f)) (hi : i < n) (hn : n < 2 ^ 31) : ev sc 9 [.ref a, .int (nI i), .int (nI m), .int b] w Q = Q none (w.set r (ri_J n (upF f i (setb (f i) m (decide (b ≠ 0)))))) := by
  have h3 : ¬ nI i < 0 := nI_pos (by omega)
  have h5 : nI i < Int32.ofNat n := nI_lt hi hn
  have h5' : ¬ Int32.ofNat n ≤ nI i := nI_ge hi hn
  have h6 : ri_in (nI i) n = true := in_nI hi hn
  have h7 : (nI i).toNatClampNeg = i := nI_clamp (by omega)
  by_cases hb : b = 0
  · simp only [↓en9, ↓u9_0, ↓u9_1, ↓u9_13, ↓u9_4, ↓u9_5, ↓u9_6, ↓u9_9, ↓u9_10, ↓u9_14, ↓u9_15, ↓u9_16, ↓u9_17, ↓u9_19, ↓u9_20, ↓u9_23, ↓u9_24, ↓u9_25, ↓u9_40, ↓u9_28, ↓u9_41, ↓u9_29, ↓u9_44, ↓u9_32, ↓u9_45, ↓u9_33, ↓u9_46, ↓u9_34, ↓u9_48, ↓u9_36, ↓u9_51, ↓u9_37, ↓u9_52, ↓u9_53, ↓u9_54, ↓gf_of (k := 0) ho rfl, h3, h5, h5', h6, h7, ↓N_of (gN_J hj), ↓J_of hj, if_true, if_false, hb, upF_eqL, setb, ne_eq, not_true_eq_false, decide_false, Bool.false_eq_true]
  · simp only [↓en9, ↓u9_0, ↓u9_1, ↓u9_13, ↓u9_4, ↓u9_5, ↓u9_6, ↓u9_9, ↓u9_10, ↓u9_14, ↓u9_15, ↓u9_16, ↓u9_17, ↓u9_19, ↓u9_20, ↓u9_23, ↓u9_24, ↓u9_25, ↓u9_40, ↓u9_28, ↓u9_41, ↓u9_29, ↓u9_44, ↓u9_32, ↓u9_45, ↓u9_33, ↓u9_46, ↓u9_34, ↓u9_48, ↓u9_36, ↓u9_51, ↓u9_37, ↓u9_52, ↓u9_53, ↓u9_54, ↓gf_of (k := 0) ho rfl, h3, h5, h5', h6, h7, ↓N_of (gN_J hj), ↓J_of hj, if_true, if_false, hb, upF_eqL, setb, ne_eq, not_false_eq_true, decide_true]
theorem s_jcopy {a r a2 r2 n : Nat} {f f2 : Nat → Int64} (ho : ri_gO w a = some (1, [.ref r])) (hi : ri_gJ w r = some (n, f)) (ho2 : ri_gO w a2 = some (1, [.ref r2])) (hi2 : ri_gJ w r2 = some (n, f2)) (hno : ri_gI w r2 = none) (hn : n < 2 ^ 31) : ev sc 12 [.ref a, .ref a2] w Q = Q none (w.set r (ri_J n (va_cpy f2 f 0 0 n))) := by
  have hc : ri_cpw w r2 r 0 0 (nI n) = some (w.set r (ri_J n (va_cpy f2 f 0 0 n))) := by
    have h7 : (nI n).toNatClampNeg = n := nI_clamp hn
    have := ri_cpw_J (sp := 0) (dp := 0) (n := nI n) hi2 hi hno ⟨by decide, by decide, nI_pos hn, by rw [h7]; show 0 + n ≤ n; omega, by rw [h7]; show 0 + n ≤ n; omega⟩
    rw [h7] at this
    exact this
  simp only [↓en12, ↓u12_0, ↓u12_1, ↓u12_4, ↓u12_5, ↓u12_6, ↓u12_9, ↓u12_10, ↓u12_13, ↓u12_14, ↓u12_15, ↓u12_18, ↓u12_19, ↓u12_20, ↓u12_23, ↓u12_24, ↓u12_25, ↓u12_28, ↓gf_of (k := 0) ho rfl, ↓gf_of (k := 0) ho2 rfl, ↓N_of (gN_J hi), ↓N_of (gN_J hi2), min_self, hc, c_p_some]
end

def bt6 (x : Int64) (i : Nat) : Bool := x.toBitVec.getLsbD i
/-- how many of p 0 .. p (n - 1) hold -/
def ct (p : Nat → Bool) : Nat → Nat
  | 0 => 0
  | n + 1 => ct p n + (if p n = true then 1 else 0)
def sm (f : Nat → Nat) : Nat → Nat
  | 0 => 0
  | n + 1 => sm f n + f n
def pcn (x : Int64) : Nat := ct (bt6 x) 64
theorem ct_le (p : Nat → Bool) : ∀ n, ct p n ≤ n
  | 0 => Nat.le_refl 0
  | n + 1 => by
    have h := ct_le p n
    unfold ct
    split <;> omega
theorem ct_cong {p q : Nat → Bool} : ∀ {n : Nat}, (∀ k, k < n → p k = q k) → ct p n = ct q n
  | 0, _ => rfl
  | n + 1, h => by
    unfold ct
    rw [ct_cong (fun k hk => h k (by omega)), h n (by omega)]
theorem sm_cong {f g : Nat → Nat} : ∀ {n : Nat}, (∀ k, k < n → f k = g k) → sm f n = sm g n
  | 0, _ => rfl
  | n + 1, h => by
    unfold sm
    rw [sm_cong (fun k hk => h k (by omega)), h n (by omega)]
theorem ct_zero {p : Nat → Bool} : ∀ {n : Nat}, (∀ k, k < n → p k = false) → ct p n = 0
  | 0, _ => rfl
  | n + 1, h => by
    unfold ct
    rw [ct_zero (fun k hk => h k (by omega)), h n (by omega)]
    rfl
theorem ct_split (p : Nat → Bool) (m : Nat) : ∀ n, ct p (m + n) = ct p m + ct (fun k => p (m + k)) n
  | 0 => rfl
  | n + 1 => by
    show ct p (m + n) + (if p (m + n) = true then 1 else 0) = ct p m + (ct (fun k => p (m + k)) n + (if p (m + n) = true then 1 else 0))
    rw [ct_split p m n]
    omega
theorem wb_tb (n : Nat) : (lN n).toBitVec = BitVec.ofNat 64 n := rfl
theorem wb_inj {a b : Int64} (h : a.toBitVec = b.toBitVec) : a = b := Int64.toBitVec_inj.mp h
theorem wb_tn {n : Nat} (h : n < 2 ^ 64) : (lN n).toBitVec.toNat = n := by rw [wb_tb, BitVec.toNat_ofNat, Nat.mod_eq_of_lt h]
theorem wb_of (x : Int64) : ∃ n, n < 2 ^ 64 ∧ x = lN n := ⟨x.toBitVec.toNat, x.toBitVec.isLt, wb_inj (by rw [wb_tb]; simp)⟩
theorem wb_of32 (x : Int32) : ∃ n, n < 2 ^ 32 ∧ x = nI n := ⟨x.toBitVec.toNat, x.toBitVec.isLt, Int32.toBitVec_inj.mp (by show _ = BitVec.ofNat 32 _; simp)⟩
theorem wb_c : ∀ k, k < 64 → ((nI k).toInt64 &&& 63) = lN k := by decide +kernel
theorem wb_cu : ∀ k, k < 64 → ((nI k).toInt64.toUInt64 &&& Int64.toUInt64 63) = UInt64.ofNat k := by decide +kernel
theorem wb_sm : ∀ k, k < 64 → (BitVec.ofNat 64 k).smod 64 = BitVec.ofNat 64 k := by decide +kernel
theorem wb_pw {a b : Nat} (h : a ≤ b) : 2 ^ b = 2 ^ a * 2 ^ (b - a) := by rw [← Nat.pow_add]; congr 1; omega
theorem wb_lt2 {a b : Nat} (h : a < b) : 2 ^ a < 2 ^ b := Nat.pow_lt_pow_right (by decide) h
theorem wb_mod (n : Nat) : lN n = lN (n % 2 ^ 64) := wb_inj (by rw [wb_tb, wb_tb]; apply BitVec.eq_of_toNat_eq; rw [BitVec.toNat_ofNat, BitVec.toNat_ofNat, Nat.mod_mod])
theorem wb_shr {n k : Nat} (hn : n < 2 ^ 64) (hk : k < 64) : ((lN n).toUInt64 >>> ((nI k).toInt64.toUInt64 &&& Int64.toUInt64 63)).toInt64 = lN (n / 2 ^ k) := by
  rw [wb_cu k hk]
  apply wb_inj
  apply BitVec.eq_of_toNat_eq
  show ((lN n).toUInt64 >>> UInt64.ofNat k).toNat = (BitVec.ofNat 64 _).toNat
  have h1 : (UInt64.ofNat k).toNat = k := by
    show (BitVec.ofNat 64 k).toNat = k
    rw [BitVec.toNat_ofNat, Nat.mod_eq_of_lt (by omega)]
  have h2 : (lN n).toUInt64.toNat = n := wb_tn hn
  rw [UInt64.toNat_shiftRight, h1, h2, Nat.mod_eq_of_lt hk, Nat.shiftRight_eq_div_pow, BitVec.toNat_ofNat, Nat.mod_eq_of_lt (Nat.lt_of_le_of_lt (Nat.div_le_self _ _) hn)]
theorem wb_shl (n : Nat) {k : Nat} (hk : k < 64) : lN n <<< ((nI k).toInt64 &&& 63) = lN (n * 2 ^ k) := by
  rw [wb_c k hk]
  apply wb_inj
  rw [Int64.toBitVec_shiftLeft, wb_tb, wb_tb, wb_tb, wb_sm k hk]
  apply BitVec.eq_of_toNat_eq
  rw [BitVec.shiftLeft_eq', BitVec.toNat_shiftLeft, BitVec.toNat_ofNat, BitVec.toNat_ofNat, BitVec.toNat_ofNat, Nat.mod_eq_of_lt (show k < 2 ^ 64 by omega), Nat.shiftLeft_eq, Nat.mul_mod, Nat.mod_mod, ← Nat.mul_mod]
theorem wb_and {a b : Nat} (ha : a < 2 ^ 64) (hb : b < 2 ^ 64) : lN a &&& lN b = lN (a &&& b) := by
  apply wb_inj
  rw [Int64.toBitVec_and, wb_tb, wb_tb, wb_tb]
  apply BitVec.eq_of_toNat_eq
  rw [BitVec.toNat_and, BitVec.toNat_ofNat, BitVec.toNat_ofNat, BitVec.toNat_ofNat, Nat.mod_eq_of_lt ha, Nat.mod_eq_of_lt hb, Nat.mod_eq_of_lt (Nat.and_lt_two_pow _ hb)]
theorem wb_or {a b : Nat} (ha : a < 2 ^ 64) (hb : b < 2 ^ 64) : lN a ||| lN b = lN (a ||| b) := by
  apply wb_inj
  rw [Int64.toBitVec_or, wb_tb, wb_tb, wb_tb]
  apply BitVec.eq_of_toNat_eq
  rw [BitVec.toNat_or, BitVec.toNat_ofNat, BitVec.toNat_ofNat, BitVec.toNat_ofNat, Nat.mod_eq_of_lt ha, Nat.mod_eq_of_lt hb, Nat.mod_eq_of_lt (Nat.or_lt_two_pow ha hb)]
theorem wb_mask {n k : Nat} (hn : n < 2 ^ 64) (hk : k < 64) : lN n &&& lN (2 ^ k - 1) = lN (n % 2 ^ k) := by
  rw [wb_and hn (by have := wb_lt2 hk; omega), Nat.and_two_pow_sub_one_eq_mod]
theorem wb_a1 {n : Nat} (hn : n < 2 ^ 64) : lN n &&& 1 = lN (n % 2) := wb_mask (k := 1) hn (by decide)
theorem wb_bit {n k : Nat} (hn : n < 2 ^ 64) (hk : k < 64) : ((lN n).toUInt64 >>> ((nI k).toInt64.toUInt64 &&& Int64.toUInt64 63)).toInt64 &&& 1 = lN (n / 2 ^ k % 2) := by
  rw [wb_shr hn hk, wb_a1 (Nat.lt_of_le_of_lt (Nat.div_le_self _ _) hn)]
def dg (f : Nat → Nat) : Nat → Nat
  | 0 => 0
  | n + 1 => 2 ^ (8 * n) * f n + dg f n
theorem dg_lt {f : Nat → Nat} (h : ∀ i, f i < 256) : ∀ n, dg f n < 2 ^ (8 * n)
  | 0 => by simp [dg]
  | n + 1 => by
    have h1 := dg_lt h n
    have h2 := h n
    have h3 : 2 ^ (8 * (n + 1)) = 2 ^ (8 * n) * 256 := by rw [Nat.mul_add, Nat.pow_add]
    show 2 ^ (8 * n) * f n + dg f n < _
    rw [h3]
    calc 2 ^ (8 * n) * f n + dg f n < 2 ^ (8 * n) * f n + 2 ^ (8 * n) := by omega
      _ = 2 ^ (8 * n) * (f n + 1) := by rw [Nat.mul_add, Nat.mul_one]
      _ ≤ 2 ^ (8 * n) * 256 := Nat.mul_le_mul_left _ h2
theorem dg_bit {f : Nat → Nat} (h : ∀ i, f i < 256) : ∀ (n j : Nat), (dg f n).testBit j = (decide (j < 8 * n) && (f (j / 8)).testBit (j % 8))
  | 0, j => by simp [dg]
  | n + 1, j => by
    show (2 ^ (8 * n) * f n + dg f n).testBit j = _
    rw [Nat.testBit_two_pow_mul_add _ (dg_lt h n)]
    split
    · rename_i hj
      rw [dg_bit h n j]
      simp [hj, show j < 8 * (n + 1) by omega]
    · rename_i hj
      by_cases hj2 : j < 8 * (n + 1)
      · have h1 : j / 8 = n := by omega
        have h2 : j - 8 * n = j % 8 := by omega
        rw [h1, h2]
        simp [hj2]
      · simp only [hj2, decide_false, Bool.false_and]
        apply Nat.testBit_lt_two_pow
        calc f n < 256 := h n
          _ = 2 ^ 8 := rfl
          _ ≤ 2 ^ (j - 8 * n) := Nat.pow_le_pow_right (by decide) (by omega)
theorem dg_add {f g : Nat → Nat} : ∀ n, dg f n + dg g n = dg (fun i => f i + g i) n
  | 0 => rfl
  | n + 1 => by
    show (2 ^ (8 * n) * f n + dg f n) + (2 ^ (8 * n) * g n + dg g n) = 2 ^ (8 * n) * (f n + g n) + dg (fun i => f i + g i) n
    rw [← dg_add n, Nat.mul_add]
    omega
theorem dg_sub {f g : Nat → Nat} (h : ∀ i, g i ≤ f i) (n : Nat) : dg f n - dg g n = dg (fun i => f i - g i) n := by
  have h1 : dg (fun i => f i - g i) n + dg g n = dg f n := by
    rw [dg_add]
    congr 1
    funext i
    have := h i
    show f i - g i + g i = f i
    omega
  omega
theorem dg_le {f g : Nat → Nat} (h : ∀ i, g i ≤ f i) (n : Nat) : dg g n ≤ dg f n := by
  have h1 : dg (fun i => f i - g i) n + dg g n = dg f n := by
    rw [dg_add]
    congr 1
    funext i
    have := h i
    show f i - g i + g i = f i
    omega
  omega
/-- a shift under a mask that takes nothing of the next byte -/
theorem dg_mask {f : Nat → Nat} (h : ∀ i, f i < 256) {k m : Nat} (hm : m < 256) (hk : ∀ j, j < 8 → m.testBit j = true → j + k < 8) (n : Nat) : (dg f n / 2 ^ k) &&& dg (fun _ => m) n = dg (fun i => (f i / 2 ^ k) &&& m) n := by
  apply Nat.eq_of_testBit_eq
  intro j
  have hb : ∀ i, (f i / 2 ^ k) &&& m < 256 := fun i => Nat.and_lt_two_pow (n := 8) _ hm
  rw [Nat.testBit_and, Nat.testBit_div_two_pow, dg_bit h, dg_bit (fun _ => hm), dg_bit hb, Nat.testBit_and, Nat.testBit_div_two_pow]
  cases hmb : m.testBit (j % 8) with
  | false => simp
  | true =>
    have h1 := hk (j % 8) (by omega) hmb
    have h2 : (k + j) / 8 = j / 8 := by omega
    have h3 : (k + j) % 8 = k + j % 8 := by omega
    rw [Nat.add_comm j k] at *
    rw [h2, h3]
    by_cases hj : j < 8 * n
    · have : k + j < 8 * n := by omega
      simp [hj, this, Nat.add_comm]
    · have : ¬ k + j < 8 * n := by omega
      simp [hj, this]
theorem dg_of {n : Nat} (h : n < 2 ^ 64) : n = dg (fun i => n / 2 ^ (8 * i) % 256) 8 := by
  simp only [dg]
  omega
def by1 (c : Nat) : Nat := c - (c / 2 &&& 85)
def by2 (c : Nat) : Nat := (by1 c &&& 51) + (by1 c / 4 &&& 51)
theorem by_ok : ∀ c, c < 256 → (c / 2 &&& 85) ≤ c ∧ by1 c < 256 ∧ by2 c % 16 ≤ 4 ∧ by2 c / 16 ≤ 4 ∧ by2 c % 16 + by2 c / 16 = ct (fun i => c.testBit i) 8 := by decide +kernel
theorem ct_byte (n k : Nat) : ct (fun i => (n / 2 ^ k % 256).testBit i) 8 = ct (fun i => n.testBit (k + i)) 8 := by
  apply ct_cong
  intro i hi
  show (n / 2 ^ k % 2 ^ 8).testBit i = _
  rw [Nat.testBit_mod_two_pow, Nat.testBit_div_two_pow]
  simp [hi, Nat.add_comm]
theorem ct_64 (n : Nat) : ct (fun i => n.testBit i) 64 = ct (fun i => (n / 2 ^ 0 % 256).testBit i) 8 + ct (fun i => (n / 2 ^ 8 % 256).testBit i) 8 + ct (fun i => (n / 2 ^ 16 % 256).testBit i) 8 + ct (fun i => (n / 2 ^ 24 % 256).testBit i) 8 + ct (fun i => (n / 2 ^ 32 % 256).testBit i) 8 + ct (fun i => (n / 2 ^ 40 % 256).testBit i) 8 + ct (fun i => (n / 2 ^ 48 % 256).testBit i) 8 + ct (fun i => (n / 2 ^ 56 % 256).testBit i) 8 := by
  simp only [ct_byte]
  rw [show (64 : Nat) = 8 + 56 from rfl, ct_split, show (56 : Nat) = 8 + 48 from rfl, ct_split, show (48 : Nat) = 8 + 40 from rfl, ct_split, show (40 : Nat) = 8 + 32 from rfl, ct_split, show (32 : Nat) = 8 + 24 from rfl, ct_split, show (24 : Nat) = 8 + 16 from rfl, ct_split, show (16 : Nat) = 8 + 8 from rfl, ct_split]
  have e : ∀ a b : Nat, (fun i => n.testBit (a + (b + i))) = (fun i => n.testBit (a + b + i)) := fun a b => by funext i; rw [Nat.add_assoc]
  simp only [← Nat.add_assoc, Nat.zero_add]
theorem sw_1 {c0 c1 c2 c3 c4 c5 c6 c7 : Nat} (h0 : c0 ≤ 8) (h1 : c1 ≤ 8) (h2 : c2 ≤ 8) (h3 : c3 ≤ 8) (h4 : c4 ≤ 8) (h5 : c5 ≤ 8) (h6 : c6 ≤ 8) (h7 : c7 ≤ 8) : ((c0) + 256 * (c1) + 65536 * (c2) + 16777216 * (c3) + 4294967296 * (c4) + 1099511627776 * (c5) + 281474976710656 * (c6) + 72057594037927936 * (c7)) + ((c0) + 256 * (c1) + 65536 * (c2) + 16777216 * (c3) + 4294967296 * (c4) + 1099511627776 * (c5) + 281474976710656 * (c6) + 72057594037927936 * (c7)) / 256 = (c0 + c1) + 256 * (c1 + c2) + 65536 * (c2 + c3) + 16777216 * (c3 + c4) + 4294967296 * (c4 + c5) + 1099511627776 * (c5 + c6) + 281474976710656 * (c6 + c7) + 72057594037927936 * (c7) := by omega
theorem sw_2 {c0 c1 c2 c3 c4 c5 c6 c7 : Nat} (h0 : c0 ≤ 16) (h1 : c1 ≤ 16) (h2 : c2 ≤ 16) (h3 : c3 ≤ 16) (h4 : c4 ≤ 16) (h5 : c5 ≤ 16) (h6 : c6 ≤ 16) (h7 : c7 ≤ 16) : ((c0) + 256 * (c1) + 65536 * (c2) + 16777216 * (c3) + 4294967296 * (c4) + 1099511627776 * (c5) + 281474976710656 * (c6) + 72057594037927936 * (c7)) + ((c0) + 256 * (c1) + 65536 * (c2) + 16777216 * (c3) + 4294967296 * (c4) + 1099511627776 * (c5) + 281474976710656 * (c6) + 72057594037927936 * (c7)) / 65536 = (c0 + c2) + 256 * (c1 + c3) + 65536 * (c2 + c4) + 16777216 * (c3 + c5) + 4294967296 * (c4 + c6) + 1099511627776 * (c5 + c7) + 281474976710656 * (c6) + 72057594037927936 * (c7) := by omega
theorem sw_4 {c0 c1 c2 c3 c4 c5 c6 c7 : Nat} (h0 : c0 ≤ 32) (h1 : c1 ≤ 32) (h2 : c2 ≤ 32) (h3 : c3 ≤ 32) (h4 : c4 ≤ 32) (h5 : c5 ≤ 32) (h6 : c6 ≤ 32) (h7 : c7 ≤ 32) : ((c0) + 256 * (c1) + 65536 * (c2) + 16777216 * (c3) + 4294967296 * (c4) + 1099511627776 * (c5) + 281474976710656 * (c6) + 72057594037927936 * (c7)) + ((c0) + 256 * (c1) + 65536 * (c2) + 16777216 * (c3) + 4294967296 * (c4) + 1099511627776 * (c5) + 281474976710656 * (c6) + 72057594037927936 * (c7)) / 4294967296 = (c0 + c4) + 256 * (c1 + c5) + 65536 * (c2 + c6) + 16777216 * (c3 + c7) + 4294967296 * (c4) + 1099511627776 * (c5) + 281474976710656 * (c6) + 72057594037927936 * (c7) := by omega
theorem nat_pop {n : Nat} (hn : n < 2 ^ 64) :
    ∃ v1 v2 v3 v4 v5 v6 : Nat, (n / 2 &&& 6148914691236517205) ≤ n ∧ v1 = n - (n / 2 &&& 6148914691236517205) ∧ v1 < 2 ^ 64 ∧ v2 = (v1 &&& 3689348814741910323) + (v1 / 4 &&& 3689348814741910323) ∧ v2 + v2 / 16 < 2 ^ 64 ∧ v3 = (v2 + v2 / 16) &&& 1085102592571150095 ∧ v4 = v3 + v3 / 256 ∧ v5 = v4 + v4 / 65536 ∧ v6 = v5 + v5 / 4294967296 ∧ v6 < 2 ^ 64 ∧ v6 % 128 = ct (fun i => n.testBit i) 64 := by
  have hc : ∀ i, n / 2 ^ (8 * i) % 256 < 256 := fun i => Nat.mod_lt _ (by decide)
  generalize hf : (fun i => n / 2 ^ (8 * i) % 256) = f at *
  have hfi : ∀ i, f i < 256 := fun i => by rw [← hf]; exact hc i
  have hn1 : n = dg f 8 := by rw [← hf]; exact dg_of hn
  have e5 : (6148914691236517205 : Nat) = dg (fun _ => 85) 8 := by decide
  have e3 : (3689348814741910323 : Nat) = dg (fun _ => 51) 8 := by decide
  have ef : (1085102592571150095 : Nat) = dg (fun _ => 15) 8 := by decide
  have s1 : n / 2 &&& 6148914691236517205 = dg (fun i => f i / 2 &&& 85) 8 := by
    rw [e5, hn1]
    exact dg_mask (k := 1) hfi (by decide) (by decide) 8
  have hle : ∀ i, (f i / 2 &&& 85) ≤ f i := fun i => (by_ok (f i) (hfi i)).1
  have s2 : n - (n / 2 &&& 6148914691236517205) = dg (fun i => by1 (f i)) 8 := by
    rw [s1]
    conv => lhs; rw [hn1]
    exact dg_sub hle 8
  have hb1 : ∀ i, by1 (f i) < 256 := fun i => (by_ok (f i) (hfi i)).2.1
  have s3 : dg (fun i => by1 (f i)) 8 &&& 3689348814741910323 = dg (fun i => by1 (f i) &&& 51) 8 := by
    have := dg_mask (f := fun i => by1 (f i)) (k := 0) hb1 (m := 51) (by decide) (by decide) 8
    rw [e3]
    simpa using this
  have s4 : dg (fun i => by1 (f i)) 8 / 4 &&& 3689348814741910323 = dg (fun i => by1 (f i) / 4 &&& 51) 8 := by
    rw [e3]
    exact dg_mask (f := fun i => by1 (f i)) (k := 2) hb1 (m := 51) (by decide) (by decide) 8
  have s5 : dg (fun i => by1 (f i) &&& 51) 8 + dg (fun i => by1 (f i) / 4 &&& 51) 8 = dg (fun i => by2 (f i)) 8 := dg_add 8
  have q := fun i => (by_ok (f i) (hfi i)).2.2
  have hl : ∀ i, by2 (f i) = by2 (f i) % 16 + 16 * (by2 (f i) / 16) := fun i => by omega
  generalize hlo : (fun i => by2 (f i) % 16) = lo
  generalize hhi : (fun i => by2 (f i) / 16) = hi
  have qlo : ∀ i, lo i ≤ 4 := fun i => by rw [← hlo]; exact (q i).1
  have qhi : ∀ i, hi i ≤ 4 := fun i => by rw [← hhi]; exact (q i).2.1
  have qct : ∀ i, lo i + hi i = ct (fun k => (f i).testBit k) 8 := fun i => by rw [← hlo, ← hhi]; exact (q i).2.2
  have s6 : dg (fun i => by2 (f i)) 8 = dg (fun i => lo i + 16 * hi i) 8 := by
    congr 1
    funext i
    rw [← hlo, ← hhi]
    exact hl i
  have s7 : dg (fun i => lo i + 16 * hi i) 8 + dg (fun i => lo i + 16 * hi i) 8 / 16 = dg (fun i => (lo i + hi i) + 16 * (hi i + (if i = 7 then 0 else lo (i + 1)))) 8 := by
    simp only [dg, Nat.reduceMul, Nat.reducePow, Nat.reduceEqDiff, Nat.reduceAdd, if_true, if_false, Nat.add_zero]
    have := qlo 0
    omega
  have hb7 : ∀ i, (lo i + hi i) + 16 * (hi i + (if i = 7 then 0 else lo (i + 1))) < 256 := fun i => by
    have h1 := qlo i
    have h2 := qhi i
    have h3 := qlo (i + 1)
    split <;> omega
  have s8 : dg (fun i => (lo i + hi i) + 16 * (hi i + (if i = 7 then 0 else lo (i + 1)))) 8 &&& 1085102592571150095 = dg (fun i => lo i + hi i) 8 := by
    have := dg_mask (k := 0) hb7 (m := 15) (by decide) (by decide) 8
    rw [ef]
    simp only [Nat.pow_zero, Nat.div_one] at this
    rw [this]
    congr 1
    funext i
    have h1 := qlo i
    have h2 := qhi i
    rw [show (15 : Nat) = 2 ^ 4 - 1 from rfl, Nat.and_two_pow_sub_one_eq_mod]
    omega
  have hlt := dg_lt hb7 8
  refine ⟨_, _, _, _, _, _, ?_, rfl, ?_, rfl, ?_, rfl, rfl, rfl, rfl, ?_, ?_⟩
  · rw [s1]
    conv => rhs; rw [hn1]
    exact dg_le hle 8
  · omega
  · rw [s2, s3, s4, s5, s6, s7]
    exact hlt
  all_goals
    rw [s2, s3, s4, s5, s6, s7, s8]
    have l0 := qlo 0; have l1 := qlo 1; have l2 := qlo 2; have l3 := qlo 3; have l4 := qlo 4; have l5 := qlo 5; have l6 := qlo 6; have l7 := qlo 7
    have h0 := qhi 0; have h1 := qhi 1; have h2 := qhi 2; have h3 := qhi 3; have h4 := qhi 4; have h5 := qhi 5; have h6 := qhi 6; have h7 := qhi 7
    have hfk : ∀ i k, k = 8 * i → ct (fun j => (n / 2 ^ k % 256).testBit j) 8 = lo i + hi i := fun i k hk => by rw [qct, ← hf, hk]
    have hsum : ct (fun i => n.testBit i) 64 = (lo 0 + hi 0) + (lo 1 + hi 1) + (lo 2 + hi 2) + (lo 3 + hi 3) + (lo 4 + hi 4) + (lo 5 + hi 5) + (lo 6 + hi 6) + (lo 7 + hi 7) := by
      rw [ct_64, hfk 0 0 rfl, hfk 1 8 rfl, hfk 2 16 rfl, hfk 3 24 rfl, hfk 4 32 rfl, hfk 5 40 rfl, hfk 6 48 rfl, hfk 7 56 rfl]
    obtain ⟨c0, e0⟩ : ∃ c, c = lo 0 + hi 0 := ⟨_, rfl⟩
    obtain ⟨c1, e1⟩ : ∃ c, c = lo 1 + hi 1 := ⟨_, rfl⟩
    obtain ⟨c2, e2⟩ : ∃ c, c = lo 2 + hi 2 := ⟨_, rfl⟩
    obtain ⟨c3, e3⟩ : ∃ c, c = lo 3 + hi 3 := ⟨_, rfl⟩
    obtain ⟨c4, e4⟩ : ∃ c, c = lo 4 + hi 4 := ⟨_, rfl⟩
    obtain ⟨c5, e5⟩ : ∃ c, c = lo 5 + hi 5 := ⟨_, rfl⟩
    obtain ⟨c6, e6⟩ : ∃ c, c = lo 6 + hi 6 := ⟨_, rfl⟩
    obtain ⟨c7, e7⟩ : ∃ c, c = lo 7 + hi 7 := ⟨_, rfl⟩
    have hdg : dg (fun i => lo i + hi i) 8 = (c0) + 256 * (c1) + 65536 * (c2) + 16777216 * (c3) + 4294967296 * (c4) + 1099511627776 * (c5) + 281474976710656 * (c6) + 72057594037927936 * (c7) := by
      simp only [dg, Nat.reduceMul, Nat.reducePow, ← e0, ← e1, ← e2, ← e3, ← e4, ← e5, ← e6, ← e7]
      omega
    rw [← e0, ← e1, ← e2, ← e3, ← e4, ← e5, ← e6, ← e7] at hsum
    rw [hdg, sw_1 (by omega) (by omega) (by omega) (by omega) (by omega) (by omega) (by omega) (by omega), sw_2 (by omega) (by omega) (by omega) (by omega) (by omega) (by omega) (by omega) (by omega), sw_4 (by omega) (by omega) (by omega) (by omega) (by omega) (by omega) (by omega) (by omega)]
    first | omega | (rw [hsum]; omega)

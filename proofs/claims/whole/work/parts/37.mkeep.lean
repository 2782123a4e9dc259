/-! THE PLAIN FORM: what it keeps and brings -/
def segW (f : Nat → Int32) (a n : Nat) (h : Nat → Int32) : Nat → Int32 := fun q => if a ≤ q ∧ q < a + n then h (q - a) else f q
theorem segW_0 {f h : Nat → Int32} {a : Nat} : segW f a 0 h = f := by
  funext q
  unfold segW
  rw [if_neg (by omega)]
theorem segW_up {f h : Nat → Int32} {a i : Nat} : upF (segW f a i h) (a + i) (h i) = segW f a (i + 1) h := by
  funext q
  unfold upF segW
  by_cases e : q = a + i
  · rw [if_pos e, if_pos (by omega), e, Nat.add_sub_cancel_left]
  · rw [if_neg e]
    by_cases e2 : a ≤ q ∧ q < a + i
    · rw [if_pos e2, if_pos (by omega)]
    · rw [if_neg e2, if_neg (by omega)]
theorem upF_tw {α : Type} {F : Nat → α} {k : Nat} {f h : α} : upF (upF F k f) k h = upF F k h := by
  funext q
  unfold upF
  by_cases e : q = k
  · rw [if_pos e, if_pos e]
  · rw [if_neg e, if_neg e, if_neg e]
theorem gDN_at {g : SG} {k : Nat} {f : Nat → Int32} : (gDN g k f).2.2.2.2 k = f := upF_at
theorem gDN_10 {g : SG} {f : Nat → Int32} : (gDN g 1 f).2.2.2.2 0 = g.2.2.2.2 0 := rfl
theorem gDN_01 {g : SG} {f : Nat → Int32} : (gDN g 0 f).2.2.2.2 1 = g.2.2.2.2 1 := rfl
theorem gDN_tw {g : SG} {k : Nat} {f h : Nat → Int32} : gDN (gDN g k f) k h = gDN g k h := by
  unfold gDN
  show (g.1, g.2.1, g.2.2.1, g.2.2.2.1, upF (upF g.2.2.2.2 k f) k h) = _
  rw [upF_tw]
theorem gDN_self {g : SG} {k : Nat} : gDN g k (g.2.2.2.2 k) = g := by
  unfold gDN
  have : upF g.2.2.2.2 k (g.2.2.2.2 k) = g.2.2.2.2 := by
    funext q
    unfold upF
    split
    · rename_i e
      rw [e]
    · rfl
  rw [this]
theorem gDN_s {g : SG} {k : Nat} {f : Nat → Int32} (e : g.2.2.2.2 k = f) : gDN g k f = g := by rw [← e, gDN_self]
section
variable {sc : Nat × (Nat → Int32)} {Q : Option Value → ri_W → Prop}
theorem xk {c i : Nat} : nI c * 1892 + nI i = nI (c * 1892 + i) := by
  rw [show (1892 : Int32) = nI 1892 from rfl, pk_mul, nI_add]
theorem xk1 {i : Nat} : nI i + 1892 = nI (i + 1892) := by rw [show (1892 : Int32) = nI 1892 from rfl, nI_add]
theorem x9460 {i : Nat} : (9460 : Int32) + nI i = nI (9460 + i) := by rw [show (9460 : Int32) = nI 9460 from rfl, nI_add]
theorem l1892 {i : Nat} (h : i < 1892) : ¬ (1892 : Int32) ≤ nI i := nI_ge (b := 1892) h (by decide)
theorem g1892 {i : Nat} (h : i = 1892) : (1892 : Int32) ≤ nI i := by rw [h]; decide
theorem l5676 {i : Nat} (h : i < 5676) : ¬ (5676 : Int32) ≤ nI i := nI_ge (b := 5676) h (by decide)
theorem g5676 {i : Nat} (h : i = 5676) : (5676 : Int32) ≤ nI i := by rw [h]; decide
theorem m_keeps_l {c : Nat} (hc : c < 6) {K : Nat → Int32} : ∀ (d i : Nat) (g : SG), i + d = 1892 → g.2.2.2.2 1 = segW K (c * 1892) i (g.2.2.2.2 0) → rv sc 113 2 [(0, .ref 154), (1, .int (nI c)), (2, .int (nI i))] [] (Wd g) Q = Q none (Wd (gDN g 1 (segW K (c * 1892) 1892 (g.2.2.2.2 0)))) := by
  intro d
  induction d with
  | zero =>
    intro i g hi hg
    rw [u113_2]
    simp only [↓u113_0, ↓u113_1, ↓u113_3, ↓u113_6, ↓u113_33, ↓u113_9, ↓u113_10, ↓u113_13, ↓u113_14, ↓u113_17, ↓u113_18, ↓u113_19, ↓u113_20, ↓u113_21, ↓u113_24, ↓u113_25, ↓u113_26, ↓u113_27, ↓u113_30, g1892 (show i = 1892 by omega), if_true, if_false]
    rw [show i = 1892 by omega] at hg
    rw [gDN_s hg]
  | succ d ih =>
    intro i g hi hg
    have ih1 := ih (i + 1) (gDN g 1 (upF (segW K (c * 1892) i (g.2.2.2.2 0)) (c * 1892 + i) (g.2.2.2.2 0 i))) (by omega) (by rw [gDN_at, segW_up, gDN_10])
    rw [gDN_10, gDN_tw] at ih1
    rw [u113_2]
    simp only [↓u113_0, ↓u113_1, ↓u113_3, ↓u113_6, ↓u113_33, ↓u113_9, ↓u113_10, ↓u113_13, ↓u113_14, ↓u113_17, ↓u113_18, ↓u113_19, ↓u113_20, ↓u113_21, ↓u113_24, ↓u113_25, ↓u113_26, ↓u113_27, ↓u113_30, l1892 (show i < 1892 by omega), if_true, if_false, ↓df0, ↓df1, ↓dI0, ↓dI1, xk, nAt (show i < 1892 by omega) (by decide), nI_clamp (show i < 2 ^ 31 by omega), nAt (show c * 1892 + i < 11352 by omega) (by decide), nI_clamp (show c * 1892 + i < 2 ^ 31 by omega), hg, upF_eq, ds1, nI_1]
    exact ih1
theorem m_keeps {c : Nat} {g : SG} (hc : c < 6) : ev sc 113 [.ref 154, .int (nI c)] (Wd g) Q = Q none (Wd (gDN g 1 (segW (g.2.2.2.2 1) (c * 1892) 1892 (g.2.2.2.2 0)))) := by
  simp only [↓en113, ↓u113_0, ↓u113_1, ↓u113_3, ↓u113_6, ↓u113_33, ↓u113_9, ↓u113_10, ↓u113_13, ↓u113_14, ↓u113_17, ↓u113_18, ↓u113_19, ↓u113_20, ↓u113_21, ↓u113_24, ↓u113_25, ↓u113_26, ↓u113_27, ↓u113_30]
  exact m_keeps_l hc 1892 0 g (by omega) segW_0.symm
theorem m_brings_l {c : Nat} (hc : c < 6) {K : Nat → Int32} : ∀ (d i : Nat) (g : SG), i + d = 1892 → g.2.2.2.2 0 = segW K 0 i (fun k => g.2.2.2.2 1 (c * 1892 + k)) → rv sc 114 2 [(0, .ref 154), (1, .int (nI c)), (2, .int (nI i))] [] (Wd g) Q = Q none (Wd (gDN g 0 (segW K 0 1892 (fun k => g.2.2.2.2 1 (c * 1892 + k))))) := by
  intro d
  induction d with
  | zero =>
    intro i g hi hg
    rw [u114_2]
    simp only [↓u114_0, ↓u114_1, ↓u114_3, ↓u114_6, ↓u114_33, ↓u114_9, ↓u114_10, ↓u114_13, ↓u114_14, ↓u114_15, ↓u114_18, ↓u114_19, ↓u114_22, ↓u114_23, ↓u114_24, ↓u114_25, ↓u114_26, ↓u114_27, ↓u114_30, g1892 (show i = 1892 by omega), if_true, if_false]
    rw [show i = 1892 by omega] at hg
    rw [gDN_s hg]
  | succ d ih =>
    intro i g hi hg
    have hup : upF (segW K 0 i (fun k => g.2.2.2.2 1 (c * 1892 + k))) i (g.2.2.2.2 1 (c * 1892 + i)) = segW K 0 (i + 1) (fun k => g.2.2.2.2 1 (c * 1892 + k)) := by
      have := segW_up (f := K) (h := fun k => g.2.2.2.2 1 (c * 1892 + k)) (a := 0) (i := i)
      rw [Nat.zero_add] at this
      exact this
    have ih1 := ih (i + 1) (gDN g 0 (upF (segW K 0 i (fun k => g.2.2.2.2 1 (c * 1892 + k))) i (g.2.2.2.2 1 (c * 1892 + i)))) (by omega) (by rw [gDN_at, hup, gDN_01])
    rw [gDN_01, gDN_tw] at ih1
    rw [u114_2]
    simp only [↓u114_0, ↓u114_1, ↓u114_3, ↓u114_6, ↓u114_33, ↓u114_9, ↓u114_10, ↓u114_13, ↓u114_14, ↓u114_15, ↓u114_18, ↓u114_19, ↓u114_22, ↓u114_23, ↓u114_24, ↓u114_25, ↓u114_26, ↓u114_27, ↓u114_30, l1892 (show i < 1892 by omega), if_true, if_false, ↓df0, ↓df1, ↓dI0, ↓dI1, xk, nAt (show i < 1892 by omega) (by decide), nI_clamp (show i < 2 ^ 31 by omega), nAt (show c * 1892 + i < 11352 by omega) (by decide), nI_clamp (show c * 1892 + i < 2 ^ 31 by omega), hg, upF_eq, ds0, nI_1]
    exact ih1
theorem m_brings {c : Nat} {g : SG} (hc : c < 6) : ev sc 114 [.ref 154, .int (nI c)] (Wd g) Q = Q none (Wd (gDN g 0 (segW (g.2.2.2.2 0) 0 1892 (fun k => g.2.2.2.2 1 (c * 1892 + k))))) := by
  simp only [↓en114, ↓u114_0, ↓u114_1, ↓u114_3, ↓u114_6, ↓u114_33, ↓u114_9, ↓u114_10, ↓u114_13, ↓u114_14, ↓u114_15, ↓u114_18, ↓u114_19, ↓u114_22, ↓u114_23, ↓u114_24, ↓u114_25, ↓u114_26, ↓u114_27, ↓u114_30]
  exact m_brings_l hc 1892 0 g (by omega) segW_0.symm
theorem m_rec_l1 {K : Nat → Int32} : ∀ (d i : Nat) (g : SG), i + d = 5676 → g.2.2.2.2 1 = segW K 0 i (fun k => K (k + 1892)) → rv sc 115 10 [(0, .ref 154), (1, .int (nI i))] [] (Wd g) Q = rv sc 115 39 [(0, .ref 154), (1, .int (nI 5676))] [] (Wd (gDN g 1 (segW K 0 5676 (fun k => K (k + 1892))))) Q := by
  intro d
  induction d with
  | zero =>
    intro i g hi hg
    rw [u115_10, u115_11, u115_14, if_pos (g5676 (show i = 5676 by omega))]
    rw [show i = 5676 by omega] at hg ⊢
    rw [gDN_s hg]
  | succ d ih =>
    intro i g hi hg
    have hup : upF (segW K 0 i (fun k => K (k + 1892))) i (K (i + 1892)) = segW K 0 (i + 1) (fun k => K (k + 1892)) := by
      have := segW_up (f := K) (h := fun k => K (k + 1892)) (a := 0) (i := i)
      rw [Nat.zero_add] at this
      exact this
    have hrd : segW K 0 i (fun k => K (k + 1892)) (i + 1892) = K (i + 1892) := by
      unfold segW
      rw [if_neg (by omega)]
    have ih1 := ih (i + 1) (gDN g 1 (upF (segW K 0 i (fun k => K (k + 1892))) i (K (i + 1892)))) (by omega) (by rw [gDN_at, hup])
    rw [gDN_tw] at ih1
    rw [u115_10]
    simp only [↓u115_11, ↓u115_14, ↓u115_17, ↓u115_18, ↓u115_21, ↓u115_22, ↓u115_23, ↓u115_26, ↓u115_27, ↓u115_30, ↓u115_31, ↓u115_32, ↓u115_33, ↓u115_36, l5676 (show i < 5676 by omega), if_true, if_false, ↓df1, ↓dI1, xk1, nAt (show i < 11352 by omega) (by decide), nI_clamp (show i < 2 ^ 31 by omega), nAt (show i + 1892 < 11352 by omega) (by decide), nI_clamp (show i + 1892 < 2 ^ 31 by omega), hg, hrd, upF_eq, ds1, nI_1]
    exact ih1
theorem m_rec_l2 {n : Nat} (hn : n < 4) {K : Nat → Int32} : ∀ (d i : Nat) (g : SG), i + d = 1892 → g.2.2.2.1 0 = nI n → g.2.2.2.2 1 = segW K (n * 1892) i (fun k => K (9460 + k)) → rv sc 115 51 [(0, .ref 154), (1, .int (nI i))] [] (Wd g) Q = Q none (Wd (gD (gDN g 1 (segW K (n * 1892) 1892 (fun k => K (9460 + k)))) 0 (nI (n + 1)))) := by
  intro d
  induction d with
  | zero =>
    intro i g hi hs hg
    rw [u115_51]
    simp only [↓u115_52, ↓u115_55, ↓u115_89, ↓u115_90, ↓u115_91, ↓u115_94, ↓u115_95, ↓u115_96, ↓u115_99, g1892 (show i = 1892 by omega), if_true, if_false, ↓df2, hs, nI_1, dp2]
    rw [show i = 1892 by omega] at hg
    rw [gDN_s hg]
  | succ d ih =>
    intro i g hi hs hg
    have hrd : segW K (n * 1892) i (fun k => K (9460 + k)) (9460 + i) = K (9460 + i) := by
      unfold segW
      rw [if_neg (by omega)]
    have ih1 := ih (i + 1) (gDN g 1 (upF (segW K (n * 1892) i (fun k => K (9460 + k))) (n * 1892 + i) (K (9460 + i)))) (by omega) hs (by
      rw [gDN_at]
      exact segW_up (f := K) (h := fun k => K (9460 + k)) (a := n * 1892) (i := i))
    rw [gDN_tw] at ih1
    rw [u115_51]
    simp only [↓u115_52, ↓u115_55, ↓u115_58, ↓u115_59, ↓u115_62, ↓u115_63, ↓u115_66, ↓u115_69, ↓u115_70, ↓u115_71, ↓u115_72, ↓u115_73, ↓u115_76, ↓u115_79, ↓u115_80, ↓u115_81, ↓u115_82, ↓u115_83, ↓u115_86, l1892 (show i < 1892 by omega), if_true, if_false, ↓df1, ↓df2, hs, ↓dI1, xk, x9460, nAt (show n * 1892 + i < 11352 by omega) (by decide), nI_clamp (show n * 1892 + i < 2 ^ 31 by omega), nAt (show 9460 + i < 11352 by omega) (by decide), nI_clamp (show 9460 + i < 2 ^ 31 by omega), hg, hrd, upF_eq, ds1, nI_1]
    exact ih1
/-- what is kept after one more state is recorded -/
def recN (n : Nat) : Nat := if n = 4 then 3 else n
def recS (K : Nat → Int32) (n : Nat) : Nat → Int32 := if n = 4 then segW K 0 5676 (fun k => K (k + 1892)) else K
def recK (K : Nat → Int32) (n : Nat) : Nat → Int32 := segW (recS K n) (recN n * 1892) 1892 (fun k => K (9460 + k))
theorem recS_t {K : Nat → Int32} {n k : Nat} : recS K n (9460 + k) = K (9460 + k) := by
  unfold recS segW
  split
  · show (if _ then _ else _) = _
    rw [if_neg (by omega)]
  · rfl
theorem gDN_gD {g : SG} {k i : Nat} {f : Nat → Int32} {v : Int32} : gDN (gD g i v) k f = gD (gDN g k f) i v := rfl
theorem gD_tw {g : SG} {i : Nat} {v w : Int32} : gD (gD g i v) i w = gD g i w := by
  unfold gD
  show (g.1, g.2.1, g.2.2.1, upF (upF g.2.2.2.1 i v) i w, g.2.2.2.2) = _
  rw [upF_tw]
theorem gD_at {g : SG} {i : Nat} {v : Int32} : (gD g i v).2.2.2.1 i = v := upF_at
theorem gD_22 {g : SG} {i : Nat} {v : Int32} : (gD g i v).2.2.2.2 = g.2.2.2.2 := rfl
theorem m_recordsTrial {g : SG} {n : Nat} (hn : n ≤ 4) (hs : g.2.2.2.1 0 = nI n) : ev sc 115 [.ref 154] (Wd g) Q = Q none (Wd (gD (gDN g 1 (recK (g.2.2.2.2 1) n)) 0 (nI (recN n + 1)))) := by
  have hfun : ∀ K : Nat → Int32, (fun k => recS K n (9460 + k)) = fun k => K (9460 + k) := fun K => funext fun k => recS_t
  by_cases e : n = 4
  · subst e
    have h1 := m_rec_l1 (sc := sc) (Q := Q) (K := g.2.2.2.2 1) 5676 0 g (by omega) segW_0.symm
    have h2 := m_rec_l2 (sc := sc) (Q := Q) (n := 3) (by decide) (K := recS (g.2.2.2.2 1) 4) 1892 0 (gD (gDN g 1 (recS (g.2.2.2.2 1) 4)) 0 (nI 3)) (by omega) gD_at (by rw [gD_22, gDN_at, segW_0])
    rw [gDN_gD, gDN_tw, gD_tw, hfun] at h2
    have e4 : (nI 4 = 4) = True := eq_true rfl
    have e3 : nI 4 - 1 = nI 3 := by decide
    simp only [↓en115, ↓u115_0, ↓u115_1, ↓u115_4, ↓u115_5, ↓u115_8, ↓u115_9, ↓df2, hs, e4, if_true]
    refine h1.trans ?_
    simp only [↓u115_39, ↓u115_40, ↓u115_41, ↓u115_44, ↓u115_45, ↓u115_46, ↓u115_49_1, ↓u115_50_1, ↓df2, ↓dp2]
    rw [show (gDN g 1 (segW (g.2.2.2.2 1) 0 5676 fun k => g.2.2.2.2 1 (k + 1892))).2.2.2.1 0 = nI 4 from hs, e3]
    exact h2
  · have h2 := m_rec_l2 (sc := sc) (Q := Q) (n := n) (by omega) (K := g.2.2.2.2 1) 1892 0 g (by omega) hs segW_0.symm
    have e4 : ¬ nI n = 4 := fun h => e ((nI_eq (b := 4) (by omega) (by decide)).mp h)
    simp only [↓en115, ↓u115_0, ↓u115_1, ↓u115_4, ↓u115_5, ↓u115_49, ↓u115_50, ↓df2, hs, e4, if_false]
    unfold recK recS recN
    rw [if_neg e, if_neg e]
    exact h2
theorem m_records {g : SG} {n : Nat} (hn : n ≤ 4) (hs : g.2.2.2.1 0 = nI n) : ev sc 116 [.ref 154] (Wd g) Q = Q none (Wd (gD (gDN g 1 (recK (segW (g.2.2.2.2 1) 9460 1892 (g.2.2.2.2 0)) n)) 0 (nI (recN n + 1)))) := by
  have hk := fun Q => m_keeps (sc := sc) (Q := Q) (g := g) (c := 5) (by decide)
  have hr := fun Q => m_recordsTrial (sc := sc) (Q := Q) (g := gDN g 1 (segW (g.2.2.2.2 1) 9460 1892 (g.2.2.2.2 0))) hn hs
  rw [gDN_at, gDN_tw] at hr
  have hk5 : ∀ Q, ev sc 113 [.ref 154, .int 5] (Wd g) Q = Q none (Wd (gDN g 1 (segW (g.2.2.2.2 1) 9460 1892 (g.2.2.2.2 0)))) := hk
  simp only [↓en116, ↓u116_0, ↓u116_1, ↓u116_2, ↓u116_5, ↓u116_6, ↓u116_9, ↓d_o, ↓hk5, ↓hr, ↓c_v_none]
end

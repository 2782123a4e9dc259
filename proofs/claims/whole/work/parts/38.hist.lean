/-! THE CLASS: its history -/
section
variable {sc : Nat × (Nat → Int32)} {g : SG} {Q : Option Value → ri_W → Prop}
theorem nf0 {K : Value → Prop} : c_g (ri_gf (Wd g) 0 4 0) K = K (.ref (bs 0)) := mf0
theorem nf1 {K : Value → Prop} : c_g (ri_gf (Wd g) 0 4 1) K = K (.ref (bs 1)) := mf1
theorem nf2 {K : Value → Prop} : c_g (ri_gf (Wd g) 0 4 2) K = K (.ref (bs 2)) := mf2
theorem hist_at {k : Nat} (h : k < 4) : hist_f k = some (bs (3 + k)) := by
  have : k = 0 ∨ k = 1 ∨ k = 2 ∨ k = 3 := by omega
  rcases this with rfl | rfl | rfl | rfl <;> rfl
theorem mod4 {a : Nat} (h : a < 2 ^ 31) : nI a - nI a / 4 * 4 = nI (a % 4) := pk_rem (d := 4) h (by decide) (by decide)
theorem n40 : ((4 : Int32) = 0) = False := eq_false (by decide)
theorem c_historyAt {fs n : Nat} (hfs : fs < 4) (hn : n ≤ 4) (e1 : g.2.1 1 = nI fs) : ev sc 99 [.ref 0, .int (nI n)] (Wd g) Q = Q (some (.ref (bs (3 + (fs + n) % 4)))) (Wd g) := by
  have h4 : (fs + n) % 4 < 4 := Nat.mod_lt _ (by decide)
  have h5 : nI ((fs + n) % 4) < Int32.ofNat 4 := nI_lt h4 (by decide)
  simp only [↓en99, ↓u99_0, ↓u99_1, ↓u99_4, ↓u99_5, ↓u99_6, ↓u99_7, ↓u99_8, ↓u99_9, ↓u99_10, ↓u99_22, ↓u99_13, ↓u99_14, ↓u99_15, ↓u99_18, ↓u99_19, ↓u99_24, ↓u99_25, ↓u99_28, ↓u99_29, ↓u99_30, ↓mf5, e1, nI_add, n40, if_false, mod4 (show fs + n < 2 ^ 31 by omega), nI_pos (show (fs + n) % 4 < 2 ^ 31 by omega), ↓mf4, ↓N_of (gN_S hs_), h5, if_true, ↓S_of hs_, nAt h4 (by decide), nI_clamp (show (fs + n) % 4 < 2 ^ 31 by omega), hist_at h4, ↓c_q_some]
def slot (fs n : Nat) : Nat := 3 + (fs + n) % 4
def fs1 (fs n : Nat) : Nat := if n = 4 then (fs + 1) % 4 else fs
/-- the world after the class has remembered its state -/
def remG (g : SG) (fs n : Nat) : SG := gM (gM (stS g (slot (fs1 fs n) (recN n)) (g.1 0)) 1 (nI (fs1 fs n))) 2 (nI (recN n + 1))
theorem gM_tw {i : Nat} {v w : Int32} : gM (gM g i v) i w = gM g i w := by
  unfold gM
  show (g.1, upF (upF g.2.1 i v) i w, g.2.2) = _
  rw [upF_tw]
theorem gM_at {i : Nat} {v : Int32} : (gM g i v).2.1 i = v := upF_at
theorem gM_s {i : Nat} {v : Int32} (e : g.2.1 i = v) : gM g i v = g := by
  unfold gM
  have : upF g.2.1 i v = g.2.1 := by
    funext q
    unfold upF
    split
    · rename_i h
      rw [h, e]
    · rfl
  rw [this]
theorem upF_comm {α : Type} {F : Nat → α} {i k : Nat} {v w : α} (h : i ≠ k) : upF (upF F i v) k w = upF (upF F k w) i v := by
  funext q
  unfold upF
  by_cases e1 : q = k
  · by_cases e2 : q = i
    · omega
    · rw [if_pos e1, if_neg e2, if_pos e1]
  · rw [if_neg e1]
    by_cases e2 : q = i
    · rw [if_pos e2, if_pos e2]
    · rw [if_neg e2, if_neg e2, if_neg e1]
theorem gM_comm {i k : Nat} {v w : Int32} (h : i ≠ k) : gM (gM g i v) k w = gM (gM g k w) i v := by
  unfold gM
  show (g.1, upF (upF g.2.1 i v) k w, g.2.2) = (g.1, upF (upF g.2.1 k w) i v, g.2.2)
  rw [upF_comm h]
theorem stS_gM {j i : Nat} {v : Int32} {s : SV} : stS (gM g i v) j s = gM (stS g j s) i v := rfl
theorem gM_1 {i : Nat} {v : Int32} : (gM g i v).1 = g.1 := rfl
theorem slot_lt {fs n : Nat} : slot fs n < 7 ∧ 3 ≤ slot fs n := by
  have := Nat.mod_lt (fs + n) (show 4 > 0 by decide)
  unfold slot
  omega
theorem c_remember {fs n : Nat} (hnf : ∀ j, j < 7 → nf (g.1 j)) (hfs : fs < 4) (hn : n ≤ 4) (e1 : g.2.1 1 = nI fs) (e2 : g.2.1 2 = nI n) : ev sc 97 [.ref 0] (Wd g) Q = Q none (Wd (remG g fs n)) := by
  by_cases e : n = 4
  · subst e
    have hx : ((4 : Int32) = 0) = False := n40
    have g1 : (gM (gM g 1 (nI ((fs + 1) % 4))) 2 (nI 3)).2.1 1 = nI ((fs + 1) % 4) := rfl
    have g2 : (gM (gM g 1 (nI ((fs + 1) % 4))) 2 (nI 3)).2.1 2 = nI 3 := rfl
    have h5 : ¬ nI 4 < 4 := by decide
    have hh := fun Q => c_historyAt (sc := sc) (Q := Q) (g := gM (gM g 1 (nI ((fs + 1) % 4))) 2 (nI 3)) (fs := (fs + 1) % 4) (n := 3) (Nat.mod_lt _ (by decide)) (by decide) g1
    have hs := @slot_lt ((fs + 1) % 4) 3
    have hc := fun Q => s_copyFrom (sc := sc) (Q := Q) (g := gM (gM g 1 (nI ((fs + 1) % 4))) 2 (nI 3)) (j := slot ((fs + 1) % 4) 3) (i := 0) hs.1 (by decide) (by omega) (hnf 0 (by decide)) (hnf _ hs.1)
    have hso := fun P => s_o (g := gM (gM g 1 (nI ((fs + 1) % 4))) 2 (nI 3)) (j := slot ((fs + 1) % 4) 3) hs.1 (P := P)
    have e3 : (3 : Int32) = nI 3 := rfl
    have e5 : nI fs + 1 = nI (fs + 1) := nI_1 fs
    have g3 : (stS (gM (gM g 1 (nI ((fs + 1) % 4))) 2 (nI 3)) (3 + ((fs + 1) % 4 + 3) % 4) ((gM (gM g 1 (nI ((fs + 1) % 4))) 2 (nI 3)).1 0)).2.1 2 = nI 3 := rfl
    simp only [slot] at hc hso
    have hfin : gM (stS (gM (gM g 1 (nI ((fs + 1) % 4))) 2 (nI 3)) (3 + ((fs + 1) % 4 + 3) % 4) ((gM (gM g 1 (nI ((fs + 1) % 4))) 2 (nI 3)).1 0)) 2 (nI 3 + 1) = remG g fs 4 := by
      rw [stS_gM, stS_gM, gM_tw]
      rfl
    simp only [↓en97, ↓u97_0, ↓u97_1, ↓u97_4, ↓u97_5, ↓u97_25, ↓u97_8, ↓u97_26, ↓u97_9, ↓u97_27, ↓u97_10, ↓u97_30, ↓u97_13, ↓u97_33, ↓u97_14, ↓u97_34, ↓u97_15, ↓u97_35, ↓u97_16, ↓u97_38, ↓u97_17, ↓u97_39, ↓u97_20, ↓u97_40, ↓u97_21, ↓u97_43, ↓u97_22, ↓u97_46, ↓u97_47, ↓u97_48, ↓u97_51, ↓u97_52, ↓u97_53, ↓u97_56, ↓mf5, ↓mf6, e1, e2, h5, if_false, ↓m_o, n40, e5, mod4 (show fs + 1 < 2 ^ 31 by omega), mp5, mp6, e3, g2, hh, ↓c_v_some, ↓c_v_none, nf0, hso, hc, g3, hfin]
  · have h5 : nI n < 4 := nI_lt (b := 4) (by omega) (by decide)
    have hh := fun Q => c_historyAt (sc := sc) (Q := Q) (g := g) (fs := fs) (n := n) hfs hn e1
    have hs := @slot_lt fs n
    have hc := fun Q => s_copyFrom (sc := sc) (Q := Q) (g := g) (j := slot fs n) (i := 0) hs.1 (by decide) (by omega) (hnf 0 (by decide)) (hnf _ hs.1)
    have hso := fun P => s_o (g := g) (j := slot fs n) hs.1 (P := P)
    simp only [slot] at hc hso
    have hfin : gM (stS g (3 + (fs + n) % 4) (g.1 0)) 2 (nI n + 1) = remG g fs n := by
      unfold remG fs1 recN slot
      rw [if_neg e, if_neg e, nI_1, gM_s (i := 1)]
      exact e1
    have g2 : (stS g (3 + (fs + n) % 4) (g.1 0)).2.1 2 = nI n := e2
    simp only [↓en97, ↓u97_0, ↓u97_1, ↓u97_4, ↓u97_5, ↓u97_25, ↓u97_8, ↓u97_26, ↓u97_9, ↓u97_27, ↓u97_10, ↓u97_30, ↓u97_13, ↓u97_33, ↓u97_14, ↓u97_34, ↓u97_15, ↓u97_35, ↓u97_16, ↓u97_38, ↓u97_17, ↓u97_39, ↓u97_20, ↓u97_40, ↓u97_21, ↓u97_43, ↓u97_22, ↓u97_46, ↓u97_47, ↓u97_48, ↓u97_51, ↓u97_52, ↓u97_53, ↓u97_56, ↓mf5, ↓mf6, e1, e2, h5, if_true, ↓m_o, mp6, hh, ↓c_v_some, ↓c_v_none, nf0, hso, hc, g2, hfin]
end

section
variable {sc : Nat × (Nat → Int32)} {g : SG} {Q : Option Value → ri_W → Prop}
theorem nf0 {K : Value → Prop} : c_g (ri_gf (Wd g) 0 4 0) K = K (.ref (bs 0)) := mf0
theorem nf1 {K : Value → Prop} : c_g (ri_gf (Wd g) 0 4 1) K = K (.ref (bs 1)) := mf1
theorem nf2 {K : Value → Prop} : c_g (ri_gf (Wd g) 0 4 2) K = K (.ref (bs 2)) := mf2
theorem hist_at {k : Nat} (h : k < 4) : hist_f k = some (bs (3 + k)) := by
  have : k = 0 ∨ k = 1 ∨ k = 2 ∨ k = 3 := by omega
  rcases this with rfl | rfl | rfl | rfl <;> rfl
theorem mod4 {a : Nat} (h : a < 2 ^ 31) : nI a - nI a / 4 * 4 = nI (a % 4) := pk_rem (d := 4) h (by decide) (by decide)
theorem n40 : ((4 : Int32) = 0) = False := eq_false (by decide)
theorem c_historyAt {fs n : Nat} (hfs : fs < 4) (hn : n ≤ 4) (e1 : g.2.1 1 = nI fs) : ev sc 86 [.ref 0, .int (nI n)] (Wd g) Q = Q (some (.ref (bs (3 + (fs + n) % 4)))) (Wd g) := by
  have h4 : (fs + n) % 4 < 4 := Nat.mod_lt _ (by decide)
  have h5 : nI ((fs + n) % 4) < Int32.ofNat 4 := nI_lt h4 (by decide)
  simp only [↓en86, ↓u86_0, ↓u86_1, ↓u86_4, ↓u86_5, ↓u86_6, ↓u86_7, ↓u86_8, ↓u86_9, ↓u86_10, ↓u86_22, ↓u86_13, ↓u86_14, ↓u86_15, ↓u86_18, ↓u86_19, ↓u86_24, ↓u86_25, ↓u86_28, ↓u86_29, ↓u86_30, ↓mf5, e1, nI_add, n40, if_false, mod4 (show fs + n < 2 ^ 31 by omega), nI_pos (show (fs + n) % 4 < 2 ^ 31 by omega), ↓mf4, ↓N_of (gN_S hs_), h5, if_true, ↓S_of hs_, nAt h4 (by decide), nI_clamp (show (fs + n) % 4 < 2 ^ 31 by omega), hist_at h4, ↓c_q_some]
def slot (fs n : Nat) : Nat := 3 + (fs + n) % 4
def fs1 (fs n : Nat) : Nat := if n = 4 then (fs + 1) % 4 else fs
/-- the world after the class has remembered its state -/
def remG (g : SG) (fs n : Nat) : SG := gM (gM (stS g (slot (fs1 fs n) (recN n)) (g.1 0)) 1 (nI (fs1 fs n))) 2 (nI (recN n + 1))
theorem gM_tw {i : Nat} {v w : Int32} : gM (gM g i v) i w = gM g i w := by
  unfold gM
  show (g.1, upF (upF g.2.1 i v) i w, g.2.2) = _
  rw [upF_tw]
theorem gM_s {i : Nat} {v : Int32} (e : g.2.1 i = v) : gM g i v = g := by
  unfold gM
  have : upF g.2.1 i v = g.2.1 := by
    funext q
    unfold upF
    split
    · rename_i h
      rw [h, e]
    · rfl
  rw [this]
theorem stS_gM {j i : Nat} {v : Int32} {s : SV} : stS (gM g i v) j s = gM (stS g j s) i v := rfl
theorem slot_lt {fs n : Nat} : slot fs n < 7 ∧ 3 ≤ slot fs n := by
  have := Nat.mod_lt (fs + n) (show 4 > 0 by decide)
  unfold slot
  omega
theorem c_remember {fs n : Nat} (hnf : ∀ j, j < 7 → nf (g.1 j)) (hfs : fs < 4) (hn : n ≤ 4) (e1 : g.2.1 1 = nI fs) (e2 : g.2.1 2 = nI n) : ev sc 84 [.ref 0] (Wd g) Q = Q none (Wd (remG g fs n)) := by
  by_cases e : n = 4
  · subst e
    have hx : ((4 : Int32) = 0) = False := n40
    have g1 : (gM (gM g 1 (nI ((fs + 1) % 4))) 2 (nI 3)).2.1 1 = nI ((fs + 1) % 4) := rfl
    have g2 : (gM (gM g 1 (nI ((fs + 1) % 4))) 2 (nI 3)).2.1 2 = nI 3 := rfl
    have h5 : ¬ nI 4 < 4 := by decide
    have hh := fun Q => c_historyAt (sc := sc) (Q := Q) (g := gM (gM g 1 (nI ((fs + 1) % 4))) 2 (nI 3)) (fs := (fs + 1) % 4) (n := 3) (Nat.mod_lt _ (by decide)) (by decide) g1
    have hs := @slot_lt ((fs + 1) % 4) 3
    have hc := fun Q => s_copyFrom (sc := sc) (Q := Q) (g := gM (gM g 1 (nI ((fs + 1) % 4))) 2 (nI 3)) (j := slot ((fs + 1) % 4) 3) (i := 0) hs.1 (by decide) (by omega) (hnf 0 (by decide)) (hnf _ hs.1)
    have hso := fun P => s_o (g := gM (gM g 1 (nI ((fs + 1) % 4))) 2 (nI 3)) (j := slot ((fs + 1) % 4) 3) hs.1 (P := P)
    have e3 : (3 : Int32) = nI 3 := rfl
    have e5 : nI fs + 1 = nI (fs + 1) := nI_1 fs
    have g3 : (stS (gM (gM g 1 (nI ((fs + 1) % 4))) 2 (nI 3)) (3 + ((fs + 1) % 4 + 3) % 4) ((gM (gM g 1 (nI ((fs + 1) % 4))) 2 (nI 3)).1 0)).2.1 2 = nI 3 := rfl
    simp only [slot] at hc hso
    have hfin : gM (stS (gM (gM g 1 (nI ((fs + 1) % 4))) 2 (nI 3)) (3 + ((fs + 1) % 4 + 3) % 4) ((gM (gM g 1 (nI ((fs + 1) % 4))) 2 (nI 3)).1 0)) 2 (nI 3 + 1) = remG g fs 4 := by
      rw [stS_gM, stS_gM, gM_tw]
      rfl
    simp only [↓en84, ↓u84_0, ↓u84_1, ↓u84_4, ↓u84_5, ↓u84_25, ↓u84_8, ↓u84_26, ↓u84_9, ↓u84_27, ↓u84_10, ↓u84_30, ↓u84_13, ↓u84_33, ↓u84_14, ↓u84_34, ↓u84_15, ↓u84_35, ↓u84_16, ↓u84_38, ↓u84_17, ↓u84_39, ↓u84_20, ↓u84_40, ↓u84_21, ↓u84_43, ↓u84_22, ↓u84_46, ↓u84_47, ↓u84_48, ↓u84_51, ↓u84_52, ↓u84_53, ↓u84_56, ↓mf5, ↓mf6, e1, e2, h5, if_false, ↓m_o, n40, e5, mod4 (show fs + 1 < 2 ^ 31 by omega), mp5, mp6, e3, g2, hh, ↓c_v_some, ↓c_v_none, nf0, hso, hc, g3, hfin]
  · have h5 : nI n < 4 := nI_lt (b := 4) (by omega) (by decide)
    have hh := fun Q => c_historyAt (sc := sc) (Q := Q) (g := g) (fs := fs) (n := n) hfs hn e1
    have hs := @slot_lt fs n
    have hc := fun Q => s_copyFrom (sc := sc) (Q := Q) (g := g) (j := slot fs n) (i := 0) hs.1 (by decide) (by omega) (hnf 0 (by decide)) (hnf _ hs.1)
    have hso := fun P => s_o (g := g) (j := slot fs n) hs.1 (P := P)
    simp only [slot] at hc hso
    have hfin : gM (stS g (3 + (fs + n) % 4) (g.1 0)) 2 (nI n + 1) = remG g fs n := by
      unfold remG fs1 recN slot
      rw [if_neg e, if_neg e, nI_1, gM_s (i := 1)]
      exact e1
    have g2 : (stS g (3 + (fs + n) % 4) (g.1 0)).2.1 2 = nI n := e2
    simp only [↓en84, ↓u84_0, ↓u84_1, ↓u84_4, ↓u84_5, ↓u84_25, ↓u84_8, ↓u84_26, ↓u84_9, ↓u84_27, ↓u84_10, ↓u84_30, ↓u84_13, ↓u84_33, ↓u84_14, ↓u84_34, ↓u84_15, ↓u84_35, ↓u84_16, ↓u84_38, ↓u84_17, ↓u84_39, ↓u84_20, ↓u84_40, ↓u84_21, ↓u84_43, ↓u84_22, ↓u84_46, ↓u84_47, ↓u84_48, ↓u84_51, ↓u84_52, ↓u84_53, ↓u84_56, ↓mf5, ↓mf6, e1, e2, h5, if_true, ↓m_o, mp6, hh, ↓c_v_some, ↓c_v_none, nf0, hso, hc, g2, hfin]
end

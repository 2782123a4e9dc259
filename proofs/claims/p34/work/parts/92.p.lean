/-! THE LAW'S OWN METHODS: undone, kept -/
section
variable {sc : Nat × (Nat → Int32)} {s s' : SV} {g : SG} {fs n j : Nat} {w : ri_W} {Q : Option Value → ri_W → Prop}
theorem i_self {x : Int32} : (x = x) = True := eq_true rfl
theorem cmp_self {x : Int64} : lg_cmp x x = 0 := by simp [lg_cmp]
theorem l_isUndone {x a b u : Int32} {vb : Int64} (hJ : inv2 s) (hJ' : inv2 s') (hturn : ∀ g fs n, Rw g fs n → g.1 0 = s → ∃ t, nf t ∧ ∀ Q, ev sc 93 [.ref 0, .int x, .int a, .int b] (Wd g) Q = Q (some (.int u)) (Wd (res g fs n t (some s')))) (hv : ∀ g : SG, g.1 0 = s → ∀ Q, ev sc 90 [.ref 0] (Wd g) Q = Q (some (.long vb)) (Wd g)) (h : Rw g fs (n + 1)) (h0 : g.1 0 = s') (hs : g.1 (slot fs n) = s) (hn : n ≤ 3) : ∃ g' fs' n', Rw g' fs' n' ∧ g'.1 0 = s' ∧ ∀ Q, ev sc 98 [.ref 0, .int x, .int a, .int b, .int u, .long vb] (Wd g) Q = Q (some (.int 1)) (Wd g') := by
  obtain ⟨v', hv'⟩ := l_view_ex (sc := sc) s' hJ'.1
  have hun := fun Q => p_undo (sc := sc) (Q := Q) h
  rw [hs] at hun
  have hR2 := Rw_und h hJ.1.1
  generalize hg2 : undG g fs n s = g2 at hun hR2
  have h20 : g2.1 0 = s := by rw [← hg2]; exact undG_0
  obtain ⟨t, ht, hq⟩ := hturn g2 fs n hR2 h20
  have hrn : recN n = n := by
    unfold recN
    rw [if_neg (by omega)]
  obtain ⟨fs3, n3, hR3, k1, -⟩ := Rw_res hR2 ht (show okr 0 (some s') from ⟨by decide, hJ'⟩)
  obtain ⟨k2, -, k3⟩ := k1 s' rfl
  rw [hrn] at k3
  subst k3
  have w1 := fun Q => hv' g h0 Q
  have w2 := fun Q => hv g2 h20 Q
  have w3 := fun Q => hv' (res g2 fs n t (some s')) k2 Q
  have c1 := fun Q => v_count9 (sc := sc) (Q := Q) h
  have c3 := fun Q => v_count9 (sc := sc) (Q := Q) hR3
  refine ⟨_, fs3, n + 1, hR3, k2, fun Q => ?_⟩
  simp only [↓en98, ↓u98_0, ↓u98_1, ↓u98_4, ↓u98_6, ↓u98_7, ↓u98_9, ↓u98_12, ↓u98_14, ↓u98_15, ↓u98_18, ↓u98_20, ↓u98_21, ↓u98_22, ↓u98_25, ↓u98_26, ↓u98_29, ↓u98_31, ↓u98_32, ↓u98_35, ↓u98_36, ↓u98_37, ↓u98_38, ↓u98_39, ↓u98_42, ↓u98_44, ↓u98_47, ↓u98_48, ↓u98_51, ↓u98_53, ↓u98_54, ↓u98_57, ↓u98_58, ↓u98_60, ↓u98_63, ↓u98_65, ↓u98_68, ↓u98_69, ↓u98_72, ↓u98_73, ↓m_o, ↓c_v_some, ↓w1, ↓w2, ↓w3, ↓c1, ↓c3, ↓hun, ↓hq, nI_pred, i_self, cmp_self, n00, if_true, ↓c_b_1]
theorem l_isKept {a b : Int32} (hJ : inv2 s) (h : Rw g fs n) (h0 : g.1 0 = s) : ∃ g' fs' n', Rw g' fs' n' ∧ g'.1 0 = s ∧ ∀ Q, ev sc 99 [.ref 0, .int a, .int b] (Wd g) Q = Q (some (.int 1)) (Wd g') := by
  subst h0
  obtain ⟨v, hv⟩ := l_view_ex (sc := sc) (g.1 0) hJ.1
  obtain ⟨u, o, ok, ht⟩ := p_turn (sc := sc) hJ (w := upV b 15) (a := b) (b := a)
  have hk := fun Q => p_keep (sc := sc) (Q := Q) hJ.1 h
  have hR1 := Rw_kep h
  obtain ⟨t, nt, hq⟩ := ht (kepG g) fs n hR1 kepG_0
  obtain ⟨fs2, n2, hR2, -, -⟩ := Rw_res hR1 nt ok
  obtain ⟨e1, e2⟩ := res_2 (g := kepG g) (fs := fs) (n := n) (t := t) (o := o)
  rw [kepG_2] at e1
  rw [kepG_b] at e2
  generalize hg2 : res (kepG g) fs n t o = g2 at hq hR2 e1 e2
  have hi2 : inv (g2.1 2) := by rw [e1]; exact hJ.1
  have hre := fun Q => p_restore (sc := sc) (Q := Q) hi2 e2 hR2
  rw [e1] at hre
  have hR3 := Rw_rem hR2 hJ.1.1
  have h30 : (stS (remG g2 fs2 n2) 0 (g.1 0)).1 0 = g.1 0 := stS_at
  generalize hg3 : stS (remG g2 fs2 n2) 0 (g.1 0) = g3 at hre hR3 h30
  have w1 := fun Q => hv g rfl Q
  have w3 := fun Q => hv g3 h30 Q
  have c1 := fun Q => v_count6 (sc := sc) (Q := Q) (g := kepG g) (by rw [kepG_0]; exact hJ.1)
  have c3 := fun Q => v_count6 (sc := sc) (Q := Q) (g := g3) (by rw [h30]; exact hJ.1)
  rw [kepG_0] at c1
  rw [h30] at c3
  refine ⟨g3, _, _, hR3, h30, fun Q => ?_⟩
  simp only [↓en99, ↓u99_0, ↓u99_1, ↓u99_4, ↓u99_5, ↓u99_6, ↓u99_9, ↓u99_10, ↓u99_12, ↓u99_15, ↓u99_18, ↓u99_19, ↓u99_20, ↓u99_21, ↓u99_22, ↓u99_24, ↓u99_27, ↓u99_28, ↓u99_29, ↓u99_32, ↓u99_33, ↓u99_34, ↓u99_37, ↓u99_38, ↓u99_40, ↓u99_43, ↓u99_46, ↓u99_47, ↓u99_50, ↓u99_51, ↓u99_52, ↓u99_55, ↓u99_56, ↓u99_59, ↓u99_60, ↓m_o, ↓c_v_some, ↓w1, ↓w3, ↓c1, ↓c3, ↓hk, ↓hq, ↓hre, ↓l_up (m := 15) (by decide), i_self, cmp_self, n00, if_true, ↓c_b_1]
end

/-- two worlds that differ only in what the class uses while it reads -/
def teq (g g' : SG) : Prop := g'.1 = g.1 ∧ g'.2.1 = g.2.1 ∧ g'.2.2.2 = g.2.2.2 ∧ g'.2.2.1.1 0 = g.2.2.1.1 0 ∧ g'.2.2.1.2 1 = g.2.2.1.2 1
theorem teq_tr {g g' g'' : SG} (h : teq g g') (h' : teq g' g'') : teq g g'' := ⟨h'.1.trans h.1, h'.2.1.trans h.2.1, h'.2.2.1.trans h.2.2.1, h'.2.2.2.1.trans h.2.2.2.1, h'.2.2.2.2.trans h.2.2.2.2⟩
section
variable {sc : Nat × (Nat → Int32)} {n : Nat} {x : Nat → Int32}
/-- the class reads a whole text -/
theorem c_parse_l (hn : n ≤ 60) : ∀ (k i : Nat) (g : SG) (p : Nat), i + k = 60 → 6 * i ≤ p → p ≤ n → g.2.2.1.1 0 = nI n → g.2.2.1.1 1 = nI i → g.2.2.1.1 2 = nI p → g.2.2.1.2 1 = x → ∃ g', teq g g' ∧ match prs x n k p with
    | .inr e => ∀ Q, rv sc 55 12 [(0, .ref 149), (1, .int (nI i))] [] (Wd g) Q = Q (some (.int (nI e))) (Wd g')
    | .inl l => g'.2.2.1.1 1 = nI (i + l.length) ∧ i + l.length ≤ 10 ∧ (∀ q, q < i * 3 → g'.2.2.1.2 0 q = g.2.2.1.2 0 q) ∧ (∀ m a b d, l[m]? = some (a, b, d) → g'.2.2.1.2 0 ((i + m) * 3 + 0) = nI a ∧ g'.2.2.1.2 0 ((i + m) * 3 + 1) = nI b ∧ g'.2.2.1.2 0 ((i + m) * 3 + 2) = nI d) ∧ ∀ Q, rv sc 55 12 [(0, .ref 149), (1, .int (nI i))] [] (Wd g) Q = Q (some (.int (-1))) (Wd g') := by
  intro k
  induction k with
  | zero =>
    intro i g p hi h6 hp e0 e1 e2 ex
    omega
  | succ k ih =>
    intro i g p hi h6 hp e0 e1 e2 ex
    by_cases hf : i < 10
    · have hc := fun Q => c_parse1 (sc := sc) (Q := Q) (i := i) (by omega) hf hn hp e0 e1 e2
      rw [ex] at hc
      unfold prs
      cases et : tpl x n p with
      | mk q o =>
        rw [et] at hc
        cases o with
        | none => exact ⟨gX g 2 (nI q), ⟨rfl, rfl, rfl, rfl, rfl⟩, hc⟩
        | some t =>
          obtain ⟨a, b, d⟩ := t
          have hl := tpl_lt et
          have hpu : ∀ m, (putF (g.2.2.1.2 0) i (nI a) (nI b) (nI d)) m = if m = i * 3 + 0 then nI a else if m = i * 3 + 1 then nI b else if m = i * 3 + 2 then nI d else g.2.2.1.2 0 m := fun m => by
            unfold putF upF
            by_cases z0 : m = i * 3 + 0
            · rw [if_neg (by omega), if_neg (by omega), if_pos z0, if_pos z0]
            · by_cases z1 : m = i * 3 + 1
              · rw [if_neg (by omega), if_pos z1, if_neg z0, if_pos z1]
              · by_cases z2 : m = i * 3 + 2
                · rw [if_pos z2, if_neg z0, if_neg z1, if_pos z2]
                · rw [if_neg z2, if_neg z1, if_neg z0, if_neg z0, if_neg z1, if_neg z2]
          by_cases hq : n ≤ q
          · simp only [hq, if_true] at hc ⊢
            refine ⟨putW g q i (nI a) (nI b) (nI d), ⟨rfl, rfl, rfl, rfl, rfl⟩, rfl, by simp; omega, fun m hm => ?_, fun m a' b' d' hm => ?_, hc⟩
            · show putF (g.2.2.1.2 0) i (nI a) (nI b) (nI d) m = _
              rw [hpu, if_neg (by omega), if_neg (by omega), if_neg (by omega)]
            · cases m with
              | zero =>
                simp only [List.getElem?_cons_zero, Option.some.injEq, Prod.mk.injEq] at hm
                obtain ⟨rfl, rfl, rfl⟩ := hm
                refine ⟨?_, ?_, ?_⟩
                · show putF (g.2.2.1.2 0) i (nI a) (nI b) (nI d) ((i + 0) * 3 + 0) = _
                  rw [hpu, if_pos (by omega)]
                · show putF (g.2.2.1.2 0) i (nI a) (nI b) (nI d) ((i + 0) * 3 + 1) = _
                  rw [hpu, if_neg (by omega), if_pos (by omega)]
                · show putF (g.2.2.1.2 0) i (nI a) (nI b) (nI d) ((i + 0) * 3 + 2) = _
                  rw [hpu, if_neg (by omega), if_neg (by omega), if_pos (by omega)]
              | succ m => simp at hm
          · simp only [hq, if_false] at hc ⊢
            by_cases s3 : tsg x n q 59 = true
            · have hq2 := tsg_lt s3
              simp only [s3, if_true] at hc ⊢
              obtain ⟨g', t1, t2⟩ := ih (i + 1) (gX (putW g q i (nI a) (nI b) (nI d)) 2 (nI (q + 1))) (q + 1) (by omega) (by omega) (by omega) e0 rfl rfl ex
              refine ⟨g', ⟨t1.1, t1.2.1, t1.2.2.1, t1.2.2.2.1, t1.2.2.2.2⟩, ?_⟩
              cases er : prs x n k (q + 1) with
              | inr e =>
                rw [er] at t2
                exact fun Q => (hc Q).trans (t2 Q)
              | inl l =>
                rw [er] at t2
                obtain ⟨u1, u2, u3, u4, u5⟩ := t2
                have hh : ∀ m, m < (i + 1) * 3 → g'.2.2.1.2 0 m = putF (g.2.2.1.2 0) i (nI a) (nI b) (nI d) m := fun m hm => u3 m hm
                refine ⟨by rw [u1]; simp; congr 1; omega, by simp; omega, fun m hm => ?_, fun m a' b' d' hm => ?_, fun Q => (hc Q).trans (u5 Q)⟩
                · rw [hh m (by omega), hpu, if_neg (by omega), if_neg (by omega), if_neg (by omega)]
                · cases m with
                  | zero =>
                    simp only [List.getElem?_cons_zero, Option.some.injEq, Prod.mk.injEq] at hm
                    obtain ⟨rfl, rfl, rfl⟩ := hm
                    refine ⟨?_, ?_, ?_⟩
                    · rw [hh _ (by omega), hpu, if_pos (by omega)]
                    · rw [hh _ (by omega), hpu, if_neg (by omega), if_pos (by omega)]
                    · rw [hh _ (by omega), hpu, if_neg (by omega), if_neg (by omega), if_pos (by omega)]
                  | succ m =>
                    simp only [List.getElem?_cons_succ] at hm
                    have := u4 m a' b' d' hm
                    rw [show i + (m + 1) = i + 1 + m by omega]
                    exact this
            · simp only [s3, if_false, Bool.false_eq_true] at hc ⊢
              exact ⟨putW g q i (nI a) (nI b) (nI d), ⟨rfl, rfl, rfl, rfl, rfl⟩, hc⟩
    · have hpn : n ≤ p := by omega
      unfold prs
      rw [tpl_end hpn]
      have hs : gX g 2 (nI p) = g := gX_s e2
      have hi1 : ¬ (60 : Int32) ≤ nI i := nI_ge (b := 60) (by omega) (by decide)
      have hd : tdg (g.2.2.1.2 1) n p = none := by
        unfold tdg
        rw [if_neg (by omega)]
      have hnum : tnum (g.2.2.1.2 1) n p = none := by
        unfold tnum
        rw [hd]
      have a1 := fun Q => c_readNumber (sc := sc) (Q := Q) hn hp e0 e2
      rw [hnum] at a1
      have m1t : ((-1 : Int32) = -1) = True := eq_true rfl
      refine ⟨g, ⟨rfl, rfl, rfl, rfl, rfl⟩, fun Q => ?_⟩
      rw [u55_12]
      simp only [↓u55_0, ↓u55_1, ↓u55_2, ↓u55_5, ↓u55_6, ↓u55_7, ↓u55_10, ↓u55_11, ↓u55_13, ↓u55_15, ↓u55_124, ↓u55_18, ↓u55_125, ↓u55_19, ↓u55_128, ↓u55_22, ↓u55_23, ↓u55_24, ↓u55_25, ↓u55_37, ↓u55_28, ↓u55_38, ↓u55_29, ↓u55_41, ↓u55_31, ↓u55_34, ↓u55_42, ↓u55_43, ↓u55_46, ↓u55_47, ↓u55_48, ↓u55_49, ↓u55_61, ↓u55_52, ↓u55_62, ↓u55_53, ↓u55_65, ↓u55_55, ↓u55_58, ↓u55_66, ↓u55_67, ↓u55_70, ↓u55_72, ↓u55_74, ↓u55_75, ↓u55_83, ↓u55_78, ↓u55_84, ↓u55_79, ↓u55_85, ↓u55_82, ↓u55_86, ↓u55_88, ↓u55_91, ↓u55_92, ↓u55_95, ↓u55_96, ↓u55_99, ↓u55_104, ↓u55_102, ↓u55_105, ↓u55_103, ↓u55_107, ↓u55_110, ↓u55_118, ↓u55_113, ↓u55_121, ↓u55_114, ↓u55_117, hi1, if_true, if_false, ↓x_o, ↓a1, ↓c_v_some, m1t, ↓xf4, e2]
end

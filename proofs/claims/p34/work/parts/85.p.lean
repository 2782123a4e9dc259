/-! ONE CALL: undo right behind an act, keep, restore -/
section
variable {sc : Nat × (Nat → Int32)} {s : SV} {g : SG} {fs n j : Nat} {Q : Option Value → ri_W → Prop}
/-- the world after undo -/
def undG (g : SG) (fs n : Nat) (s : SV) : SG := gM (stS g 0 s) 2 (nI n)
theorem p_undo (h : Rw g fs (n + 1)) : ev sc 67 [.ref 0] (Wd g) Q = Q (some (.int (nI n))) (Wd (undG g fs n (g.1 (slot fs n)))) := by
  obtain ⟨a1, h1, h2, h3, h4⟩ := h
  have e1 : ¬ nI (n + 1) ≤ 0 := nI_nle (by omega) (by omega)
  have e2 : (0 : Int32) < nI (n + 1) := Int32.not_le.mp e1
  have hsl := @slot_lt fs n
  have hh := fun Q => c_historyAt (sc := sc) (Q := Q) (g := gM g 2 (nI n)) (fs := fs) (n := n) h1 (by omega) h3
  have hc := fun Q => s_copyFrom (sc := sc) (Q := Q) (g := gM g 2 (nI n)) (j := 0) (i := slot fs n) z7 hsl.1 (by omega) (a1 _ hsl.1) (a1 0 z7)
  have g2 : (gM g 2 (nI n)).2.1 2 = nI n := rfl
  have g3 : (stS (gM g 2 (nI n)) 0 ((gM g 2 (nI n)).1 (slot fs n))).2.1 2 = nI n := rfl
  simp only [slot] at hc g3
  simp only [↓en67, ↓u67_0, ↓u67_1, ↓u67_4, ↓u67_10, ↓u67_7, ↓u67_11, ↓u67_9, ↓u67_12, ↓u67_15, ↓u67_16, ↓u67_17, ↓u67_20, ↓u67_21, ↓u67_24, ↓u67_25, ↓u67_26, ↓u67_29, ↓u67_32, ↓u67_35, ↓u67_36, ↓u67_39, ↓mf6, h4, e1, e2, if_true, if_false, nI_pred, mp6, ↓m_o, nf0, g2, hh, ↓c_v_some, ↓s_o z7, hc, ↓c_v_none, g3]
  rfl
theorem Rw_und (h : Rw g fs (n + 1)) (hs : nf s) : Rw (undG g fs n s) fs n := by
  obtain ⟨a1, h1, h2, h3, h4⟩ := h
  refine ⟨fun j hj => ?_, h1, by omega, h3, rfl⟩
  show nf ((stS g 0 s).1 j)
  by_cases e : j = 0
  · subst e
    rw [stS_at]
    exact hs
  · rw [stS_ne e]
    exact a1 j hj
theorem undG_0 : (undG g fs n s).1 0 = s := by
  show (stS g 0 s).1 0 = s
  exact stS_at
/-- behind an act the history has the state that was before it -/
theorem rem_slot {s' : SV} : (stS (remG g fs n) 0 s').1 (slot (fs1 fs n) (recN n)) = g.1 0 := by
  have := @slot_lt (fs1 fs n) (recN n)
  rw [stS_ne (by omega)]
  exact stS_at
def kepG (g : SG) : SG := gM (stS g 2 (g.1 0)) 0 1
theorem p_keep (hI : inv (g.1 0)) (h : Rw g fs n) : ev sc 68 [.ref 0] (Wd g) Q = Q (some (.int (nI (sm (plc (g.1 0)) (nC (g.1 0)))))) (Wd (kepG g)) := by
  have hc := fun Q => s_copyFrom (sc := sc) (Q := Q) (g := g) (j := 2) (i := 0) (by decide) z7 (by decide) (h.1 0 z7) (h.1 2 (by decide))
  have hp : ∀ Q, ev sc 38 [.ref (bs 0)] (Wd (gM (stS g 2 (g.1 0)) 0 1)) Q = Q (some (.int (nI (sm (plc (g.1 0)) (nC (g.1 0)))))) (Wd (gM (stS g 2 (g.1 0)) 0 1)) := fun Q => by
    rw [s_allPlaced z7, show (gM (stS g 2 (g.1 0)) 0 1).1 0 = g.1 0 from rfl, plcAll_eq hI]
  simp only [↓en68, ↓u68_0, ↓u68_1, ↓u68_4, ↓u68_5, ↓u68_8, ↓u68_11, ↓u68_12, ↓u68_13_b0, ↓u68_13_b1, ↓u68_16, ↓u68_17, ↓u68_20, ↓u68_23, ↓nf0, ↓nf2, ↓s_o z7, ↓s_o (show 2 < 7 by decide), ↓hc, ↓c_v_none, ↓mp3, ↓hp, ↓c_v_some]
  rfl
theorem Rw_kep (h : Rw g fs n) : Rw (kepG g) fs n := by
  obtain ⟨a1, h1, h2, h3, h4⟩ := h
  refine ⟨fun j hj => ?_, h1, h2, h3, h4⟩
  show nf ((stS g 2 (g.1 0)).1 j)
  by_cases e : j = 2
  · subst e
    rw [stS_at]
    exact a1 0 (by decide)
  · rw [stS_ne e]
    exact a1 j hj
theorem kepG_0 : (kepG g).1 0 = g.1 0 := rfl
theorem kepG_2 : (kepG g).1 2 = g.1 0 := by
  show (stS g 2 (g.1 0)).1 2 = g.1 0
  exact stS_at
theorem kepG_b : (kepG g).2.1 0 = 1 := rfl
/-- the snapshot stays over a call -/
theorem res_2 {t : SV} {o : Option SV} : (res g fs n t o).1 2 = g.1 2 ∧ (res g fs n t o).2.1 0 = g.2.1 0 := by
  cases o with
  | none => exact ⟨stS_ne (by decide), rfl⟩
  | some s' =>
    have := @slot_lt (fs1 fs n) (recN n)
    refine ⟨?_, rfl⟩
    show (stS (remG (stS g 1 t) fs n) 0 s').1 2 = _
    rw [stS_ne (by decide)]
    show (stS (stS g 1 t) (slot (fs1 fs n) (recN n)) ((stS g 1 t).1 0)).1 2 = _
    rw [stS_ne (by omega), stS_ne (by decide)]
theorem p_restore (hi : inv (g.1 2)) (hb : g.2.1 0 = 1) (h : Rw g fs n) : ev sc 69 [.ref 0] (Wd g) Q = Q (some (.int (nI (sm (plc (g.1 2)) (nC (g.1 2)))))) (Wd (stS (remG g fs n) 0 (g.1 2))) := by
  have hsl := @slot_lt (fs1 fs n) (recN n)
  have e2 : (remG g fs n).1 2 = g.1 2 := stS_ne (by omega)
  have hc := fun Q => s_copyFrom (sc := sc) (Q := Q) (g := remG g fs n) (j := 0) (i := 2) z7 (by decide) (by decide) (by rw [e2]; exact h.1 2 (by decide)) (by rw [remG_0]; exact h.1 0 z7)
  rw [e2] at hc
  have hp : ∀ Q, ev sc 38 [.ref (bs 0)] (Wd (stS (remG g fs n) 0 (g.1 2))) Q = Q (some (.int (nI (sm (plc (g.1 2)) (nC (g.1 2)))))) (Wd (stS (remG g fs n) 0 (g.1 2))) := fun Q => by
    rw [s_allPlaced z7, stS_at, plcAll_eq hi]
  simp only [↓en69, ↓u69_0, ↓u69_1, ↓u69_4, ↓u69_10, ↓u69_7, ↓u69_11, ↓u69_9, ↓u69_14, ↓u69_15, ↓u69_18, ↓u69_19, ↓u69_22, ↓u69_25, ↓u69_26, ↓u69_29, ↓u69_32, ↓mf3, hb, n10, if_false, ↓m_o, ↓c_rem h, ↓c_v_none, ↓nf0, ↓nf2, ↓s_o z7, ↓hc, ↓hp, ↓c_v_some]
/-- what a call leaves -/
theorem Rw_res {t : SV} {o : Option SV} {u : Int32} (h : Rw g fs n) (ht : nf t) (ho : okr u o) : ∃ fs' n', Rw (res g fs n t o) fs' n' ∧ (∀ s', o = some s' → (res g fs n t o).1 0 = s' ∧ fs' = fs1 fs n ∧ n' = recN n + 1) ∧ (o = none → (res g fs n t o).1 0 = g.1 0 ∧ fs' = fs ∧ n' = n) := by
  cases o with
  | none => exact ⟨fs, n, Rw_trial h ht, fun s' e => (by cases e), fun _ => ⟨stS_ne (by decide), rfl, rfl⟩⟩
  | some s' => exact ⟨_, _, Rw_rem (Rw_trial h ht) ho.2.1.1, fun s1 e => by cases e; exact ⟨stS_at, rfl, rfl⟩, fun e => by cases e⟩
end

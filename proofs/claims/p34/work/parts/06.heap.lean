section
variable {D : va_G} {cI cJ cS : ClassId} {z b : Nat} {sc : Nat × (Nat → Int32)} {p : Program} {l : Launch} {e : Env} {R : Room} {s : State} {m : MethodId} {args : Array Value} {below : List Frame} {meth : Method} {c : Code} {Q : State → Prop} {y n0 s0 pc : Nat} {ls : ri_L} {st : List Value} {w : ri_W} {c' : ri_C}
theorem ri_P1 {H : Heap} (h : ri_H D cI cJ cS z b w H) {a : Nat} {e0 : ri_E} (ha : w[a]? = some e0) : va_P D vwCl [(z + a, ri_cE z b cI cJ cS e0)] H := by
  intro k q hk
  match k, hk with
  | 0, hk => cases hk; exact h.2 a e0 ha
  | k + 1, hk => simp at hk
theorem ri_G_set {a pc' : Nat} {e0 e1 : ri_E} {ls' : ri_L} {st' : List Value} {H H' : Heap} {locs' : List Loc} {lm : Array Slot} (k : ri_G D cI cJ cS z b p l e R s m args below meth c Q y n0 s0 (pc', ls', st', w.set a e1)) (hw : w[a]? = some e0) (hs : ri_sz e1 = ri_sz e0) (h1 : ri_H D cI cJ cS z b w H) (h2 : ∀ q, q < z → H[q]? = s.heap[q]?) (hz : H'.size = H.size) (ho : ∀ q, q ≠ z + a → H'[q]? = H[q]?) (hnw : va_at D vwCl (z + a, ri_cE z b cI cJ cS e1) H') (h3 : ∀ q ∈ locs', z ≤ q.base) (h4 : lv_has lm (ri_ml y) (ri_cl z b ls')) :
    W p l e R s m args below meth c H' locs' (w.length - n0) (ri_ns w - s0) Q (F0 m pc' lm (st'.map (ri_cv z b))) := by
  have hk := k H' locs' lm (h1.set hz ho hnw) (fun q hq => (ho q (by omega)).trans (h2 q hq)) h3 h4
  dsimp only at hk
  rw [List.length_set, ri_ns_set hw hs] at hk
  exact hk
theorem ri_loc1 {locs : List Loc} {a j : Nat} (h3 : ∀ q ∈ locs, z ≤ q.base) : ∀ q ∈ locs ++ [(⟨z + a, j⟩ : Loc)], z ≤ q.base := by
  intro q hq
  rcases List.mem_append.mp hq with hq | hq
  · exact h3 q hq
  · rw [List.mem_singleton.mp hq]
    exact Nat.le_add_right z a
theorem ri_in_iff {i : Int32} {n : Nat} (h : ri_in i n = true) : vp_in i n := by
  unfold ri_in at h
  simpa [vp_in] using h
theorem ri_tyok_ok {ty : FieldType} {v : Value} (h : ri_tyok ty v = true) : narrow ty (ri_cv z b v) = ri_cv z b v ∧ fits ty (ri_cv z b v) = true := by
  unfold ri_tyok at h
  split at h
  · exact ⟨rfl, rfl⟩
  · next x =>
    simp only [Bool.or_eq_true, beq_iff_eq] at h
    rcases h with h | h <;> subst h <;> exact ⟨(by decide : narrow FieldType.boolean (.int _) = .int _), (by decide : fits FieldType.boolean (.int _) = true)⟩
  · exact ⟨rfl, rfl⟩
  · exact ⟨rfl, rfl⟩
  · cases h
theorem ri_s_getfield (C : ri_At D cI cJ cS z b sc R p s m args meth c y) {ix : Nat} (hd : decode (ri_bc y) pc = .ok (.getfield ix, 3)) (h : ri_xgf pc (ri_flk (ri_ow y) ix) ls st w = some (.inl c')) (k : ri_G D cI cJ cS z b p l e R s m args below meth c Q y n0 s0 c') : ri_G D cI cJ cS z b p l e R s m args below meth c Q y n0 s0 (pc, ls, st, w) := by
  obtain ⟨hx, hb, hr, hml, hown, hts, hlocks, hini, hK, hX, hbz, hfr, hlo⟩ := C
  unfold ri_xgf at h
  split at h
  · rename_i a r e0 he
    split at h
    · rename_i v hv
      cases h
      obtain ⟨f1, f2, f3, f4, f5⟩ := ri_flk_ok he
      unfold ri_gf at hv
      split at hv
      · rename_i ci fs ho
        split at hv
        · rename_i hci
          subst hci
          intro H locs lm h1 h2 h3 h4
          have hP := ri_P1 h1 (ri_gO_eq ho)
          have hl := hts _ f1
          unfold ri_fw at hl
          rw [f4, f5] at hl
          refine va_get (D := D) (v := ri_cv z b v) hx hb hts (ri_lays_in f2) hown hK.1 hP 0 rfl (ri_cls_at f2) e0.2.2.2.1 f3 hl (fun _ q => q) ?_ hd (k H locs lm h1 h2 h3 h4)
          rw [List.getElem?_map, hv]
          rfl
        · cases hv
      · cases hv
    · cases h
  · cases h
theorem ri_s_putfield (C : ri_At D cI cJ cS z b sc R p s m args meth c y) {ix : Nat} (hd : decode (ri_bc y) pc = .ok (.putfield ix, 3)) (h : ri_xpf y pc (ri_flk (ri_ow y) ix) ls st w = some (.inl c')) (k : ri_G D cI cJ cS z b p l e R s m args below meth c Q y n0 s0 c') : ri_G D cI cJ cS z b p l e R s m args below meth c Q y n0 s0 (pc, ls, st, w) := by
  obtain ⟨hx, hb, hr, hml, hown, hts, hlocks, hini, hK, hX, hbz, hfr, hlo⟩ := C
  unfold ri_xpf at h
  split at h
  · rename_i v a r e0 he
    split at h
    · rename_i hpok
      split at h
      · rename_i w' hpf
        cases h
        obtain ⟨f1, f2, f3, f4, f5⟩ := ri_flk_ok he
        unfold ri_pf at hpf
        split at hpf
        · rename_i ci fs ho
          split at hpf
          · rename_i hci
            obtain ⟨hci, hkl⟩ := hci
            subst hci
            cases hpf
            intro H locs lm h1 h2 h3 h4
            have hw := ri_gO_eq ho
            have hl := hts _ f1
            unfold ri_fw at hl
            rw [f4, f5] at hl
            unfold ri_pok at hpok
            rw [Bool.and_eq_true] at hpok
            obtain ⟨hty, hfin⟩ := hpok
            obtain ⟨hnar, hfit⟩ := ri_tyok_ok (z := z) (b := b) hty
            have hap := va_apart (own := ri_on (ri_ow y)) hts (ri_lays_in f2) (ri_ft e0.2.2.1) (ri_ft_ok f2) (ri_nm_ok f2) hK.1 (ri_cls_at f2)
            obtain ⟨r0, g1, cell, q1, q2, q3, q4⟩ := h1.2 a _ hw
            have hr0 : r0 = ri_cls e0.2.2.1 := Option.some.inj (g1.symm.trans (ri_cls_at f2))
            subst hr0
            obtain ⟨hS, hfc, kC, hkC, hkind⟩ := hK.1.1 e0.2.2.1 _ (ri_cls_at f2)
            obtain ⟨cf, kf, fi, f, hi, hsl⟩ := hS e0.2.2.2.1 f3
            have hlay := hts _ (ri_lays_in f2 _ (u_in_lay f3))
            have hst := (u_facts hfc hkC (u_lays hts (ri_lays_in f2) f3) hi).1
            have hd0 := ri_ft_ok f2 _ f3
            have hset : ∀ H' : Heap, H'[z + a]? = some (cell.setSlot f.slot (ri_cv z b v)) → va_at D vwCl (z + a, ri_cE z b cI cJ cS (ri_O e0.2.2.1 (fs.set e0.2.2.2.1 v))) H' := by
              intro H' e1
              rw [hsl] at e1
              refine ⟨_, ri_cls_at f2, t_OB.to (V := updV (vp_V (fs.map (ri_cv z b))) e0.2.2.2.1 (ri_cv z b v)) ⟨_, e1, q2, q3, t_set q4 hap f3 _⟩ (fun j _ => ?_)⟩
              rw [vp_updV_set (by rw [List.length_map]; exact hkl), ← List.map_set]
            unfold u_lay at hlay
            rcases Bool.eq_false_or_eq_true (((ri_cls e0.2.2.1).2.1 e0.2.2.2.1).2.2.2) with hff | hff
            · rw [if_pos hff] at hlay
              rw [hff] at hfin
              simp only [Bool.not_true, Bool.false_or, Bool.and_eq_true, decide_eq_true_eq] at hfin
              have hcf : m.cls = cf := by
                obtain ⟨_, _, c0, _, _, _, -, -, hf0, -, -, -, hown2, -⟩ := Cond.laysFinal_spec hlay
                have e1 : c0 = cf := by have := hi.symm.trans hf0; simp at this; exact this.1.symm
                rw [hfin.2] at hown2
                rw [← e1]; exact Option.some.inj (hown.symm.trans hown2)
              have h6 := u_fits hfc hkC hkind (Or.inr hlay) hi hd0 hnar hfit
              refine W.putFinK hx hb hown hl hi hst hcf (hini hfin.1) (by rw [q2]; exact h6) q1 q3 (by rw [hsl]; exact k2_hasslot (q4 _ f3)) rfl rfl hd fun H' e1 e2 e3 => ?_
              exact ri_G_set k hw (by show (fs.set _ _).length = fs.length; exact List.length_set) h1 h2 e2 e3 (hset H' e1) (ri_loc1 h3) h4
            · rw [if_neg (by rw [hff]; decide)] at hlay
              have h6 := u_store hfc hkC hkind hlay hi hd0 hnar hfit
              refine W.putK hx hb (f := f) ⟨hown, hl, ⟨_, _, _, hi⟩, hst⟩ (by rw [q2]; exact h6) q1 q3 (by rw [hsl]; exact k2_hasslot (q4 _ f3)) rfl rfl hd fun H' e1 e2 e3 => ?_
              exact ri_G_set k hw (by show (fs.set _ _).length = fs.length; exact List.length_set) h1 h2 e2 e3 (hset H' e1) (ri_loc1 h3) h4
          · cases hpf
        · cases hpf
      · cases h
    · cases h
  · cases h
theorem ri_s_iaload (C : ri_At D cI cJ cS z b sc R p s m args meth c y)  (hd : decode (ri_bc y) pc = .ok (.iaload, 1)) (h : ri_xia sc pc ls st w = some (.inl c')) (k : ri_G D cI cJ cS z b p l e R s m args below meth c Q y n0 s0 c') : ri_G D cI cJ cS z b p l e R s m args below meth c Q y n0 s0 (pc, ls, st, w) := by
  obtain ⟨hx, hb, hr, hml, hown, hts, hlocks, hini, hK, hX, hbz, hfr, hlo⟩ := C
  unfold ri_xia at h
  split at h
  · rename_i i a r
    split at h
    · rename_i n f hg
      split at h
      · rename_i hin
        cases h
        intro H locs lm h1 h2 h3 h4
        exact va_iald hx hb hK.1 (ri_P1 h1 (ri_gI_eq hg)) 0 0 rfl rfl (ri_in_iff hin) hd (k H locs lm h1 h2 h3 h4)
      · cases h
    · cases h
  · rename_i i q r
    split at h
    · rename_i hin
      cases h
      intro H locs lm h1 h2 h3 h4
      obtain ⟨scr, g1, g2, g3, g4, g5⟩ := hX
      have hv := ri_in_iff hin
      have hlt : i.toNatClampNeg < sc.1 := Nat.not_le.mp fun q => hv (Or.inr q)
      exact W.iald (v := .int (sc.2 i.toNatClampNeg)) hx hb (by rw [h2 b hbz]; exact g1) g2 g3 (by rw [g4]; exact hv) (g5 _ hlt) rfl rfl hd (k H locs lm h1 h2 h3 h4)
    · cases h
  · cases h
theorem ri_s_laload (C : ri_At D cI cJ cS z b sc R p s m args meth c y)  (hd : decode (ri_bc y) pc = .ok (.laload, 1)) (h : ri_xja pc ls st w = some (.inl c')) (k : ri_G D cI cJ cS z b p l e R s m args below meth c Q y n0 s0 c') : ri_G D cI cJ cS z b p l e R s m args below meth c Q y n0 s0 (pc, ls, st, w) := by
  obtain ⟨hx, hb, hr, hml, hown, hts, hlocks, hini, hK, hX, hbz, hfr, hlo⟩ := C
  unfold ri_xja at h
  split at h
  · rename_i i a r
    split at h
    · rename_i n f hg
      split at h
      · rename_i hin
        cases h
        intro H locs lm h1 h2 h3 h4
        exact va_lald hx hb hK.1 (ri_P1 h1 (ri_gJ_eq hg)) 0 1 rfl rfl (ri_in_iff hin) hd (k H locs lm h1 h2 h3 h4)
      · cases h
    · cases h
  · cases h
theorem ri_s_aaload (C : ri_At D cI cJ cS z b sc R p s m args meth c y)  (hd : decode (ri_bc y) pc = .ok (.aaload, 1)) (h : ri_xaa pc ls st w = some (.inl c')) (k : ri_G D cI cJ cS z b p l e R s m args below meth c Q y n0 s0 c') : ri_G D cI cJ cS z b p l e R s m args below meth c Q y n0 s0 (pc, ls, st, w) := by
  obtain ⟨hx, hb, hr, hml, hown, hts, hlocks, hini, hK, hX, hbz, hfr, hlo⟩ := C
  unfold ri_xaa at h
  split at h
  · rename_i i a r
    split at h
    · rename_i n f hg
      split at h
      · rename_i hin
        cases h
        intro H locs lm h1 h2 h3 h4
        have hk := k H locs lm h1 h2 h3 h4
        refine va_aldq (C := RX2) hx hb hK.1 (ri_P1 h1 (ri_gS_eq hg)) 0 2 rfl rfl (ri_in_iff hin) hd ?_
        have he : ri_cv z b (va_rf (f i.toNatClampNeg)) = va_rf ((f i.toNatClampNeg).map (fun k => z + k)) := by
          cases f i.toNatClampNeg <;> rfl
        dsimp only at hk
        rw [List.map_cons, he] at hk
        exact hk
      · cases h
    · cases h
  · cases h
theorem ri_s_iastore (C : ri_At D cI cJ cS z b sc R p s m args meth c y)  (hd : decode (ri_bc y) pc = .ok (.iastore, 1)) (h : ri_xis pc ls st w = some (.inl c')) (k : ri_G D cI cJ cS z b p l e R s m args below meth c Q y n0 s0 c') : ri_G D cI cJ cS z b p l e R s m args below meth c Q y n0 s0 (pc, ls, st, w) := by
  obtain ⟨hx, hb, hr, hml, hown, hts, hlocks, hini, hK, hX, hbz, hfr, hlo⟩ := C
  unfold ri_xis at h
  split at h
  · rename_i x i a r
    split at h
    · rename_i n f hg
      split at h
      · rename_i hin
        cases h
        intro H locs lm h1 h2 h3 h4
        have hw := ri_gI_eq hg
        have hin := ri_in_iff hin
        refine W.iast hx hb (h1.2 a _ hw) ((hK.1.2 0 _ rfl).1 n (fun j => .int (f j))) (fun q => by cases q) (by show ¬ (i < 0 ∨ (arrV _ _ _).slots.size ≤ _); rw [arrV_size]; exact hin) rfl rfl hd fun H1 e1 z1 oq => ?_
        refine ri_G_set k hw rfl h1 h2 z1 oq ?_ (ri_loc1 h3) h4
        show H1[z + a]? = some (vp_cell _ _)
        rw [e1]
        show some ((vp_cell _ _).setSlot _ _) = _
        rw [vp_cell_i, vp_cell_i, arrV_store]
        congr 2
        funext q
        by_cases hq : q = i.toNatClampNeg
        · subst hq
          simp [updV, upd]
        · simp [updV, upd, hq]
      · cases h
    · cases h
  · cases h
theorem ri_s_lastore (C : ri_At D cI cJ cS z b sc R p s m args meth c y)  (hd : decode (ri_bc y) pc = .ok (.lastore, 1)) (h : ri_xjs pc ls st w = some (.inl c')) (k : ri_G D cI cJ cS z b p l e R s m args below meth c Q y n0 s0 c') : ri_G D cI cJ cS z b p l e R s m args below meth c Q y n0 s0 (pc, ls, st, w) := by
  obtain ⟨hx, hb, hr, hml, hown, hts, hlocks, hini, hK, hX, hbz, hfr, hlo⟩ := C
  unfold ri_xjs at h
  split at h
  · rename_i x i a r
    split at h
    · rename_i n f hg
      split at h
      · rename_i hin
        cases h
        intro H locs lm h1 h2 h3 h4
        have hw := ri_gJ_eq hg
        have hin := ri_in_iff hin
        refine W.last hx hb (h1.2 a _ hw) ((hK.1.2 1 _ rfl).1 n (fun j => .long (f j))) (fun q => by cases q) (by show ¬ (i < 0 ∨ (arrV _ _ _).slots.size ≤ _); rw [arrV_size]; exact hin) rfl rfl hd fun H1 e1 z1 oq => ?_
        refine ri_G_set k hw rfl h1 h2 z1 oq ?_ (ri_loc1 h3) h4
        show H1[z + a]? = some (vp_cell _ _)
        rw [e1]
        show some ((vp_cell _ _).setSlot _ _) = _
        rw [vp_cell_l, vp_cell_l, arrV_store]
        congr 2
        funext q
        by_cases hq : q = i.toNatClampNeg
        · subst hq
          simp [updV, vp_updL]
        · simp [updV, vp_updL, hq]
      · cases h
    · cases h
  · cases h
theorem ri_s_aastore (C : ri_At D cI cJ cS z b sc R p s m args meth c y)  (hd : decode (ri_bc y) pc = .ok (.aastore, 1)) (h : ri_xas pc ls st w = some (.inl c')) (k : ri_G D cI cJ cS z b p l e R s m args below meth c Q y n0 s0 c') : ri_G D cI cJ cS z b p l e R s m args below meth c Q y n0 s0 (pc, ls, st, w) := by
  obtain ⟨hx, hb, hr, hml, hown, hts, hlocks, hini, hK, hX, hbz, hfr, hlo⟩ := C
  unfold ri_xas at h
  split at h
  · rename_i v i a r
    split at h
    · rename_i n f c0 vs hg ho
      split at h
      · rename_i hin
        obtain ⟨hin, hc2⟩ := hin
        subst hc2
        cases h
        intro H locs lm h1 h2 h3 h4
        have hw := ri_gS_eq hg
        have hv := ri_gO_eq ho
        have hin := ri_in_iff hin
        have hlt : i.toNatClampNeg < n := Nat.not_le.mp fun q => hin (Or.inr q)
        have h0 : ¬ i < 0 := fun q => hin (Or.inl q)
        obtain ⟨r', hr', cellV, g1, g2, g3, -⟩ := h1.2 v _ hv
        have hc : vwCl[2]? = some (RX2, TX2, 16) := rfl
        have hcls := (hK.1.1 2 _ hc).2
        obtain ⟨kA, comp, k1, k2, k3, -⟩ := (hK.1.2 2 _ rfl).2
        have hcomp : comp = D.1 2 := Option.some.inj (k3.symm.trans hcls.1)
        subst hcomp
        obtain ⟨kC, hkC, -⟩ := hcls.2
        refine W.aast hx hb (h1.2 a _ hw) (fun q h => by cases h) (fun h => by cases h) k1 k2 rfl hkC ⟨h0, by show _ < (arrV _ _ _).slots.size; rw [arrV_size]; exact hlt⟩ g1 (fun q h => by rw [g3] at h; cases h) (by rw [g2]; exact hkC) (by rw [g2]; exact va_assign hcls) rfl rfl hd fun H1 e1 z1 oq => ?_
        refine ri_G_set k hw rfl h1 h2 z1 oq ?_ (ri_loc1 h3) h4
        show H1[z + a]? = some (vp_cell _ _)
        rw [e1]
        show some ((vp_cell _ _).setSlot _ _) = _
        rw [vp_cell_q, vp_cell_q, arrV_store]
        congr 2
        funext q
        by_cases hq : q = i.toNatClampNeg
        · subst hq
          simp [updV, va_up, va_rf]
        · simp [updV, va_up, hq]
      · cases h
    · cases h
  · cases h
theorem ri_s_arraylength (C : ri_At D cI cJ cS z b sc R p s m args meth c y)  (hd : decode (ri_bc y) pc = .ok (.arraylength, 1)) (h : ri_xal sc pc ls st w = some (.inl c')) (k : ri_G D cI cJ cS z b p l e R s m args below meth c Q y n0 s0 c') : ri_G D cI cJ cS z b p l e R s m args below meth c Q y n0 s0 (pc, ls, st, w) := by
  obtain ⟨hx, hb, hr, hml, hown, hts, hlocks, hini, hK, hX, hbz, hfr, hlo⟩ := C
  unfold ri_xal at h
  split at h
  · rename_i a r
    split at h
    · rename_i n hg
      cases h
      intro H locs lm h1 h2 h3 h4
      have hk := k H locs lm h1 h2 h3 h4
      unfold ri_gN at hg
      split at hg
      · rename_i x hw
        cases hg
        exact va_alen (v := Int32.ofNat x.1) hx hb hK.1 (ri_P1 h1 hw) 0 0 rfl rfl rfl hd hk
      · rename_i x hw
        cases hg
        exact va_alen (v := Int32.ofNat x.1) hx hb hK.1 (ri_P1 h1 hw) 0 1 rfl rfl rfl hd hk
      · rename_i x hw
        cases hg
        exact va_alen (v := Int32.ofNat x.1) hx hb hK.1 (ri_P1 h1 hw) 0 2 rfl rfl rfl hd hk
      · cases hg
    · cases h
  · rename_i q r
    cases h
    intro H locs lm h1 h2 h3 h4
    obtain ⟨scr, g1, g2, g3, g4, g5⟩ := hX
    exact W.alen (n := Int32.ofNat sc.1) hx hb (by rw [h2 b hbz]; exact g1) g2 (by rw [g4] <;> rfl) rfl rfl hd (k H locs lm h1 h2 h3 h4)
  · cases h
theorem ri_s_new (C : ri_At D cI cJ cS z b sc R p s m args meth c y) {ix : Nat} (hd : decode (ri_bc y) pc = .ok (.new ix, 3)) (h : ri_xnew pc (ri_clk (ri_ow y) ix) ls st w = some (.inl c')) (hn : n0 ≤ w.length ∧ s0 ≤ ri_ns w) (hR : c'.2.2.2.length - n0 ≤ R.cells ∧ ri_ns c'.2.2.2 - s0 ≤ R.slots) (k : ri_G D cI cJ cS z b p l e R s m args below meth c Q y n0 s0 c') : ri_G D cI cJ cS z b p l e R s m args below meth c Q y n0 s0 (pc, ls, st, w) := by
  obtain ⟨hx, hb, hr, hml, hown, hts, hlocks, hini, hK, hX, hbz, hfr, hlo⟩ := C
  unfold ri_xnew at h
  split at h
  · rename_i e0 he
    cases h
    obtain ⟨f1, f2, f3, f4⟩ := ri_clk_ok he
    intro H locs lm h1 h2 h3 h4
    have hz1 : ri_sz (ri_O e0.2.2.1 (ri_df e0.2.2.1)) = (ri_cls e0.2.2.1).2.2 := by show (ri_df e0.2.2.1).length = _; unfold ri_df; simp
    dsimp only at hR
    rw [ri_ns_push, List.length_append, hz1] at hR
    simp only [List.length_cons, List.length_nil] at hR
    have w1 := hts _ (f1 _ (by unfold ri_cw; exact List.mem_cons_self))
    have w2 := hts _ (f1 (.instantiable (ri_cls e0.2.2.1).1 (ri_cls e0.2.2.1).2.2) (by unfold ri_cw; simp))
    have w3 := hts _ (f1 (.initialized (ri_cls e0.2.2.1).1) (by unfold ri_cw; simp))
    rw [f3, f4] at w1
    have hKn := hK.1.1 e0.2.2.1 _ (ri_cls_at f2)
    refine W.newcK hx hb hown w1 w2 w3 rfl hd (by show w.length - n0 + 1 ≤ R.cells; omega) (by show ri_ns w - s0 + _ ≤ R.slots; omega) hKn.2.1 h1.1 fun H1 kC hkC e1 z1 o1 => ?_
    have hk := k H1 locs lm (h1.push (by rw [z1, h1.1]) (fun q hq => o1 q (by rw [← h1.1]; exact hq)) ⟨_, ri_cls_at f2, (u_born (ri_ft e0.2.2.1) hts (ri_lays_in f2) hKn hkC e1 (ri_ft_ok f2)).to (fun j hj => ?_)⟩) (fun q hq => (o1 q (by omega)).trans (h2 q hq)) h3 h4
    · dsimp only [List.map_cons] at hk
      rw [ri_ns_push, List.length_append, hz1] at hk
      simp only [List.length_cons, List.length_nil] at hk
      rw [show w.length + (0 + 1) - n0 = w.length - n0 + 1 by omega, show ri_ns w + (ri_cls e0.2.2.1).2.2 - s0 = ri_ns w - s0 + (ri_cls e0.2.2.1).2.2 by omega] at hk
      exact hk
    · show defaultValue (ri_ft e0.2.2.1 j) = ((ri_df e0.2.2.1).map (ri_cv z b)).getD j .null
      unfold ri_df
      rw [List.getD_eq_getElem?_getD, List.getElem?_map, List.getElem?_map, List.getElem?_range hj]
      show defaultValue _ = ri_cv z b (defaultValue _)
      cases ri_ft e0.2.2.1 j <;> rfl
  · cases h
theorem ri_s_newarray (C : ri_At D cI cJ cS z b sc R p s m args meth c y) {t : ArrayType} (hd : decode (ri_bc y) pc = .ok (.newarray t, 2)) (h : ri_xna t pc ls st w = some (.inl c')) (hn : n0 ≤ w.length ∧ s0 ≤ ri_ns w) (hR : c'.2.2.2.length - n0 ≤ R.cells ∧ ri_ns c'.2.2.2 - s0 ≤ R.slots) (k : ri_G D cI cJ cS z b p l e R s m args below meth c Q y n0 s0 c') : ri_G D cI cJ cS z b p l e R s m args below meth c Q y n0 s0 (pc, ls, st, w) := by
  obtain ⟨hx, hb, hr, hml, hown, hts, hlocks, hini, hK, hX, hbz, hfr, hlo⟩ := C
  unfold ri_xna at h
  split at h
  · rename_i n r
    split at h
    · rename_i hq
      cases h
      intro H locs lm h1 h2 h3 h4
      dsimp only at hR
      rw [ri_ns_push, List.length_append] at hR
      simp only [List.length_cons, List.length_nil, ri_sz] at hR
      have ha : (Jvm.Cond.arrayClass .int) ∈ ri_WS := by
        have := List.all_eq_true.mp ri_arrs (.arrayClass .int) (by simp)
        simp only [Bool.and_eq_true, decide_eq_true_eq] at this
        exact ri_WS_in this.1 this.2
      refine va_newaK (atype := .int) (N := n.toNatClampNeg) hx hb (hts _ ha) rfl hd rfl hq.1 rfl (Nat.le_trans (Nat.mul_le_mul_right _ hq.2) (by decide)) (by show w.length - n0 + 1 ≤ R.cells; omega) (by show ri_ns w - s0 + _ ≤ R.slots; omega) h1.1 fun H1 cA e1 z1 o1 _ fc => ?_
      have hcA : cI = cA := Option.some.inj (((hK.1.2 0 _ rfl).2 : s.vm.findClass _ = some cI).symm.trans fc)
      subst hcA
      have hk := k H1 locs lm (h1.push (by rw [z1, h1.1]) (fun q hq => o1 q (by rw [← h1.1]; exact hq)) (show H1[z + w.length]? = some (vp_cell _ _) by rw [e1]; rfl)) (fun q hq => (o1 q (by omega)).trans (h2 q hq)) h3 h4
      dsimp only [List.map_cons] at hk
      rw [ri_ns_push, List.length_append] at hk
      simp only [List.length_cons, List.length_nil, ri_sz] at hk
      rw [show w.length + (0 + 1) - n0 = w.length - n0 + 1 by omega, show ri_ns w + n.toNatClampNeg - s0 = ri_ns w - s0 + n.toNatClampNeg by omega] at hk
      exact hk
    · cases h
  · rename_i n r
    split at h
    · rename_i hq
      cases h
      intro H locs lm h1 h2 h3 h4
      dsimp only at hR
      rw [ri_ns_push, List.length_append] at hR
      simp only [List.length_cons, List.length_nil, ri_sz] at hR
      have ha : (Jvm.Cond.arrayClass .long) ∈ ri_WS := by
        have := List.all_eq_true.mp ri_arrs (.arrayClass .long) (by simp)
        simp only [Bool.and_eq_true, decide_eq_true_eq] at this
        exact ri_WS_in this.1 this.2
      refine va_newaK (atype := .long) (N := n.toNatClampNeg) hx hb (hts _ ha) rfl hd rfl hq.1 rfl (Nat.le_trans (Nat.mul_le_mul_right _ hq.2) (by decide)) (by show w.length - n0 + 1 ≤ R.cells; omega) (by show ri_ns w - s0 + _ ≤ R.slots; omega) h1.1 fun H1 cA e1 z1 o1 _ fc => ?_
      have hcA : cJ = cA := Option.some.inj (((hK.1.2 1 _ rfl).2 : s.vm.findClass _ = some cJ).symm.trans fc)
      subst hcA
      have hk := k H1 locs lm (h1.push (by rw [z1, h1.1]) (fun q hq => o1 q (by rw [← h1.1]; exact hq)) (show H1[z + w.length]? = some (vp_cell _ _) by rw [e1]; rfl)) (fun q hq => (o1 q (by omega)).trans (h2 q hq)) h3 h4
      dsimp only [List.map_cons] at hk
      rw [ri_ns_push, List.length_append] at hk
      simp only [List.length_cons, List.length_nil, ri_sz] at hk
      rw [show w.length + (0 + 1) - n0 = w.length - n0 + 1 by omega, show ri_ns w + n.toNatClampNeg - s0 = ri_ns w - s0 + n.toNatClampNeg by omega] at hk
      exact hk
    · cases h
  · cases h
theorem ri_s_anewarray (C : ri_At D cI cJ cS z b sc R p s m args meth c y) {ix : Nat} (hd : decode (ri_bc y) pc = .ok (.anewarray ix, 3)) (h : ri_xan y ix pc ls st w = some (.inl c')) (hn : n0 ≤ w.length ∧ s0 ≤ ri_ns w) (hR : c'.2.2.2.length - n0 ≤ R.cells ∧ ri_ns c'.2.2.2 - s0 ≤ R.slots) (k : ri_G D cI cJ cS z b p l e R s m args below meth c Q y n0 s0 c') : ri_G D cI cJ cS z b p l e R s m args below meth c Q y n0 s0 (pc, ls, st, w) := by
  obtain ⟨hx, hb, hr, hml, hown, hts, hlocks, hini, hK, hX, hbz, hfr, hlo⟩ := C
  unfold ri_xan at h
  split at h
  · rename_i n r
    split at h
    · rename_i hq
      obtain ⟨hq1, hq2, hq3, hq4⟩ := hq
      subst hq2
      cases h
      intro H locs lm h1 h2 h3 h4
      dsimp only at hR
      rw [ri_ns_push, List.length_append] at hR
      simp only [List.length_cons, List.length_nil, ri_sz] at hR
      have ha : (Jvm.Cond.classLink RX4 7 RX2) ∈ ri_WS := by
        have := List.all_eq_true.mp ri_arrs (.classLink RX4 7 RX2) (by simp)
        simp only [Bool.and_eq_true, decide_eq_true_eq] at this
        exact ri_WS_in this.1 this.2
      have hown4 : s.vm.findClass RX4 = some m.cls := by rw [hq1] at hown; exact hown
      refine W.anew hx hb hown4 (hts _ ha) (va_AO.use hK.2.2) rfl hd rfl hq3 (by omega) (by show w.length - n0 + 1 ≤ R.cells; omega) (by show ri_ns w - s0 + _ ≤ R.slots; omega) fun cA kA comp f1 f2 f3 f4 => ?_
      have hcA : cS = cA := by
        obtain ⟨kA2, comp2, -, -, -, k4⟩ := (hK.1.2 2 _ rfl).2
        exact Option.some.inj (k4.symm.trans f1)
      subst hcA
      generalize hH1 : H.push ({ cls := cS, slots := Array.replicate n.toNatClampNeg .null, vm := .none } : Cell) = H1
      have z1 : H1.size = H.size + 1 := by rw [← hH1, Array.size_push]
      have e1 : H1[H.size]? = some (arrV cS n.toNatClampNeg (fun _ => .null)) := by rw [← hH1, Array.getElem?_push_size, ← arrV_new]
      have o1 : ∀ q : Nat, q < H.size → H1[q]? = H[q]? := fun q hq => by rw [← hH1, Array.getElem?_push, if_neg (Nat.ne_of_lt hq)]
      have hk := k H1 locs lm (h1.push z1 o1 (show H1[z + w.length]? = some (vp_cell _ _) by rw [← h1.1, e1]; rfl)) (fun q hq => (o1 q (by rw [h1.1]; omega)).trans (h2 q hq)) h3 h4
      dsimp only at hk
      rw [ri_ns_push, List.length_append] at hk
      simp only [List.length_cons, List.length_nil, ri_sz] at hk
      rw [List.map_cons, show w.length + (0 + 1) - n0 = w.length - n0 + 1 by omega, show ri_ns w + n.toNatClampNeg - s0 = ri_ns w - s0 + n.toNatClampNeg by omega, show ri_cv z b (.ref w.length) = .ref H.size by rw [h1.1]; rfl] at hk
      exact hk
    · cases h
  · cases h
theorem ri_s_ldc2_w (C : ri_At D cI cJ cS z b sc R p s m args meth c y) {ix : Nat} (hd : decode (ri_bc y) pc = .ok (.ldc2_w ix, 3)) (h : ri_xld pc (ri_llk (ri_ow y) ix) ls st w = some (.inl c')) (k : ri_G D cI cJ cS z b p l e R s m args below meth c Q y n0 s0 c') : ri_G D cI cJ cS z b p l e R s m args below meth c Q y n0 s0 (pc, ls, st, w) := by
  obtain ⟨hx, hb, hr, hml, hown, hts, hlocks, hini, hK, hX, hbz, hfr, hlo⟩ := C
  unfold ri_xld at h
  split at h
  · rename_i e0 he
    cases h
    obtain ⟨f1, f2, f3⟩ := ri_llk_ok he
    intro H locs lm h1 h2 h3 h4
    have hl := hts _ f1
    unfold ri_lw at hl
    rw [f2, f3] at hl
    exact lv_ldc2 hx hb hown hl hd (k H locs lm h1 h2 h3 h4)
  · cases h
theorem ri_s_ldc (C : ri_At D cI cJ cS z b sc R p s m args meth c y) {ix : Nat} (hd : decode (ri_bc y) pc = .ok (.ldc ix, 2)) (h : ri_xldi pc (ri_dlk (ri_ow y) ix) ls st w = some (.inl c')) (k : ri_G D cI cJ cS z b p l e R s m args below meth c Q y n0 s0 c') : ri_G D cI cJ cS z b p l e R s m args below meth c Q y n0 s0 (pc, ls, st, w) := by
  obtain ⟨hx, hb, hr, hml, hown, hts, hlocks, hini, hK, hX, hbz, hfr, hlo⟩ := C
  unfold ri_xldi at h
  split at h
  · rename_i e0 he
    cases h
    obtain ⟨f1, f2, f3⟩ := ri_dlk_ok he
    intro H locs lm h1 h2 h3 h4
    have hl := hts _ f1
    unfold ri_dw at hl
    rw [f2, f3] at hl
    exact lv_ldc hx hb hown hl hd (k H locs lm h1 h2 h3 h4)
  · cases h
end

section
variable {D : va_G} {cI cJ cS : ClassId} {z b : Nat} {sc : Nat × (Nat → Int32)} {l : Launch}
theorem ri_kind {e0 : Nat × Nat × Nat × Nat × List Nat} {k : Nat} (hk : e0.2.2.1 = k) {o ix : Nat} (h1 : e0.1 = o) (h2 : e0.2.1 = ix) : e0 = (o, ix, k, e0.2.2.2.1, e0.2.2.2.2) := by
  subst hk; subst h1; subst h2; rfl
theorem ri_fit {a0 a1 a2 a3 r : Nat} (h1 : a0 ≤ a1) (h2 : a1 ≤ a2) (h3 : a2 ≤ a3) (h4 : a3 - a0 ≤ r) : (a1 - a0) + (a2 - a1) ≤ r := by omega
/-- THE RUN IS THE MACHINE'S: where the run comes to x, the machine comes to the method's end with x -/
theorem ri_sound : ∀ (n y : Nat) (cf : ri_C) (x : ri_X), ri_run sc n y cf = some x →
    ∀ {p : Program} {e : Env} {R : Room} {s : State} {m : MethodId} {args : Array Value} {below : List Frame} {meth : Method} {c : Code} {Q : State → Prop} {n0 s0 : Nat},
      ri_At D cI cJ cS z b sc R p s m args meth c y → n0 ≤ cf.2.2.2.length → s0 ≤ ri_ns cf.2.2.2 → x.2.length - n0 ≤ R.cells → ri_ns x.2 - s0 ≤ R.slots → ri_Fin D cI cJ cS z b p l e R s m args below meth c Q y n0 s0 x →
      ri_G D cI cJ cS z b p l e R s m args below meth c Q y n0 s0 cf := by
  intro n
  induction n with
  | zero => intro y cf x h; cases h
  | succ n ih =>
    intro y cf x h p e R s m args below meth c Q n0 s0 C hn hs hRc hRs hfin
    obtain ⟨pc, ls, st, w⟩ := cf
    obtain ⟨i, len, hd, hl, ⟨c', he, h⟩ | he | ⟨zz, as, c', x1, he, hrk, hr1, hr2⟩⟩ := ri_run_succ h
    · have g1 := ri_ex_mono he
      have g2 := ri_run_mono _ _ _ _ h
      dsimp only at hn hs g1 hd he
      exact ri_step C hd hl he ⟨hn, hs⟩ ⟨by omega, by omega⟩ (ih y c' x h C (by omega) (by omega) hRc hRs hfin)
    · obtain ⟨e1, e2⟩ := ri_ex_ret he
      dsimp only at e1 e2 hd hn hs
      have hlen : len = 1 := by
        rcases e2 with ⟨rfl, -⟩ | ⟨rfl, -⟩ | ⟨rfl, -⟩ | ⟨rfl, -⟩ <;> simpa [ri_lok, ri_ln] using hl
      subst hlen
      intro H locs lm h1 h2 h3 h4
      have hk := hfin H locs lm pc i st hd e2 (by rw [e1]; exact h1) h2 h3
      rw [e1] at hk
      exact hk
    · obtain ⟨ix, e0, hm, hz0, r, rfl, hsh, hcase⟩ := ri_ex_call he
      dsimp only at hd hr1 hr2 hn hs hcase hm
      have g1 := ri_run_mono _ _ _ _ hr1
      have g2 := ri_run_mono _ _ _ _ hr2
      dsimp only at g1 g2
      obtain ⟨hrk1, hz179, hlen⟩ := hrk
      have hM : Met l (ri_nm zz) (ri_ws zz) (ri_rm zz (x1.2.length - w.length) (ri_ns x1.2 - ri_ns w)) (ri_Pc D cI cJ cS z b sc as w) (ri_Qc D cI cJ cS z b x1) (x1.2.length - w.length) (ri_ns x1.2 - ri_ns w) (fun q => z ≤ q) :=
        ri_met hz179 hlen (fun C' a1 a2 a3 a4 a5 => ih zz (0, lv_args 0 as, [], w) x1 hr1 C' a1 a2 a3 a4 a5)
      obtain ⟨m1, m2, m3, m4⟩ := ri_M_at (y := zz) (by omega)
      obtain ⟨f1, f2, f3, f4⟩ := ri_mlk_ok hm
      have hgo := ih y (pc + 3, ls, x1.1.toList ++ r, x1.2) x hr2 C (Nat.le_trans hn g1.1) (Nat.le_trans hs g1.2) hRc hRs hfin
      obtain ⟨hx, hb, hr, hml, hown, hts, hlocks, hini, hK, hX, hbz, hfr, hlo⟩ := id C
      intro H locs lm h1 h2 h3 h4
      have hsum := ri_sh_sum (z := z) (b := b) hsh
      have hroom : (ri_rm zz (x1.2.length - w.length) (ri_ns x1.2 - ri_ns w)).frames + 1 ≤ R.frames ∧ 8 + (ri_ml zz + 11) + (ri_rm zz (x1.2.length - w.length) (ri_ns x1.2 - ri_ns w)).locals ≤ R.locals := by
        show ri_rk zz + 1 ≤ R.frames ∧ 8 + (ri_ml zz + 11) + ri_rk zz * 45 ≤ R.locals
        have : ri_rk zz * 45 + 45 ≤ ri_rk y * 45 := by omega
        omega
      have hf : (w.length - n0) + (x1.2.length - w.length) ≤ R.cells ∧ (ri_ns w - s0) + (ri_ns x1.2 - ri_ns w) ≤ R.slots := ⟨ri_fit hn g1.1 g2.1 hRc, ri_fit hs g1.2 g2.2 hRs⟩
      have hpre : ∀ U : State, U.heap = H → s.WarmedH U.vm → ri_Pc D cI cJ cS z b sc as w (as.map (ri_cv z b)).toArray U := fun U hU hW =>
        ⟨rfl, by rw [hU]; exact h1, ri_K.warm hW hK, by rw [hU]; exact va_X.moved hW.alike (hX.kept (h2 b hbz)), hbz⟩
      have after : ∀ {st0 : List Value}, va_Run p l e R s m args below meth c H locs (w.length - n0) (ri_ns w - s0) (x1.2.length - w.length) (ri_ns x1.2 - ri_ns w) (F0 m pc lm st0) (r.map (ri_cv z b)) (ri_Qc D cI cJ cS z b x1 (as.map (ri_cv z b)).toArray) (fun q => z ≤ q) → W p l e R s m args below meth c H locs (w.length - n0) (ri_ns w - s0) Q (F0 m pc lm st0) := by
        intro st0 hrun
        refine ri_after hrun (fun v st₀ t L hst hq hL => ?_)
        obtain ⟨hv, hH1, hfr1⟩ := hq
        have hk := hgo t.heap (locs ++ L) lm hH1 (fun q hq => by rw [hfr1 q hq, hst]; exact h2 q hq) (fun q hq => (List.mem_append.mp hq).elim (h3 q) (hL q)) h4
        dsimp only at hk
        cases hv
        rw [show x1.2.length - n0 = w.length - n0 + (x1.2.length - w.length) by omega, show ri_ns x1.2 - s0 = ri_ns w - s0 + (ri_ns x1.2 - ri_ns w) by omega] at hk
        rw [List.map_append, show (x1.1.toList.map (ri_cv z b)) = (x1.1.map (ri_cv z b)).toList by cases x1.1 <;> rfl] at hk
        exact hk
      have hwd : ∀ w ∈ ri_mw e0, goodWord w = true → w ∈ ri_WS := fun w hw hg => ri_WS_in (f2 w hw).1 hg
      have hst : (st.map (ri_cv z b)) = st.map (ri_cv z b) := rfl
      subst hz0
      rcases hcase with ⟨rfl, hk0, a, As, rfl, rfl, hAs, hoc, how⟩ | ⟨rfl, hk0, rfl, hAs⟩ | ⟨rfl, hk0, a, As, rfl, rfl, hAs⟩
      · obtain rfl : len = 3 := by simpa [ri_lok, ri_ln] using hl
        have hgd : ∀ w ∈ ri_mw e0, goodWord w = true := fun w hw => (f2 w hw).2.resolve_right (by rw [hk0]; decide)
        unfold ri_mw at hwd hgd
        rw [hk0, f3, f4] at hwd hgd
        have hG : GoodIn ri_WS (wsV (ri_on (ri_ow y)) ix (ri_nm e0.2.2.2.1).cls (ri_nm e0.2.2.2.1) (ri_ws e0.2.2.2.1)) := by
          intro w hw
          rcases List.mem_append.mp (show w ∈ ([.methodLink (ri_on (ri_ow y)) ix (ri_nm e0.2.2.2.1), .instanceMethod (ri_nm e0.2.2.2.1), .selects (ri_nm e0.2.2.2.1).cls (ri_nm e0.2.2.2.1) (ri_nm e0.2.2.2.1), .initialized (ri_nm e0.2.2.2.1).cls] : List Jvm.Cond) ++ ri_ws e0.2.2.2.1 from hw) with hw | hw
          · exact ⟨hwd w hw (hgd w hw), good_of_word (hgd w hw)⟩
          · exact ri_ws_good hz179 w hw
        cases ho : ri_gO w a with
        | none => rw [ho] at hoc; cases hoc
        | some o =>
          rw [ho] at hoc
          have ho1 : o.1 = ri_ow e0.2.2.2.1 := Option.some.inj hoc
          have hrecv := va_recv hK.1 (ri_P1 h1 (ri_gO_eq ho)) (q := ri_cls o.1) (q0 := 0) (ci := o.1) (ri_cls_at (by rw [ho1]; exact how)) rfl
          rw [ri_cls_on (by rw [ho1]; exact how), ho1, ← m3] at hrecv
          have hgoal := after (va_runV (As := As.map (ri_cv z b)) (b := z + a) (rest := r.map (ri_cv z b)) (g := F0 m pc lm ((As.reverse ++ .ref a :: r).map (ri_cv z b))) ⟨hx, hb, hml, hown, hts⟩ hM (cwV (ri_na e0.2.2.2.1) hts hG rfl rfl rfl ⟨rfl, m2⟩ hroom) ⟨ri_Pc_blind, hrecv, hpre⟩ rfl (by rw [List.length_map]; exact hAs) h4.1 (by show (As.reverse ++ .ref a :: r).map (ri_cv z b) = _; rw [List.map_append, List.map_reverse]; rfl) (lv_room (pc := pc) hsum) hd hf)
          exact hgoal
      · obtain rfl : len = 3 := by simpa [ri_lok, ri_ln] using hl
        rcases hk0 with hk0 | hk0
        · have hgd : ∀ w ∈ ri_mw e0, goodWord w = true := fun w hw => (f2 w hw).2.resolve_right (by rw [hk0]; decide)
          unfold ri_mw at hwd hgd
          rw [hk0, f3, f4] at hwd hgd
          have hin : ∀ w ∈ ([.methodLink (ri_on (ri_ow y)) ix (ri_nm e0.2.2.2.1), .static (ri_nm e0.2.2.2.1), .initialized (ri_nm e0.2.2.2.1).cls] : List Jvm.Cond), w.before args s = true := fun w hw => hts w (hwd w hw (hgd w hw))
          have hgoal := after (va_runS (As := as.map (ri_cv z b)) (rest := r.map (ri_cv z b)) (g := F0 m pc lm ((as.reverse ++ r).map (ri_cv z b))) ⟨hx, hb, hml, hown, hts⟩ hM ⟨callB_of (ri_na e0.2.2.2.1) hts (ri_ws_good hz179) rfl rfl rfl (hin _ (by simp)) (hin (.methodLink (ri_on (ri_ow y)) ix (ri_nm e0.2.2.2.1)) (by simp)) m2 hroom, hin _ (by simp)⟩ ⟨ri_Pc_blind, hpre⟩ rfl (by rw [List.length_map]; exact hAs) h4.1 (by show (as.reverse ++ r).map (ri_cv z b) = _; rw [List.map_append, List.map_reverse]) (lv_room (pc := pc) hsum) hd hf)
          exact hgoal
        · obtain ⟨n1, n2⟩ := ri_ML_nest2 e0 f1 hk0
          have hnest := ri_ML_nest e0 f1 hk0
          unfold ri_mw at hwd n1
          rw [hk0, f3, f4] at hwd n1
          have hin : ∀ w ∈ ([.static (ri_nm e0.2.2.2.1), .initialized (ri_nm e0.2.2.2.1).cls] : List Jvm.Cond), w.before args s = true := fun w hw => hts w (hwd w (List.mem_cons_of_mem _ hw) (List.all_eq_true.mp n1 w hw))
          have hnw : va_Nw (.methodLinkNest (ri_on (ri_ow y)) ix (ri_nm e0.2.2.2.1) RX4) s := by
            rw [f3, f4] at hnest
            rw [n2]
            have h7 := hK.2.1 (ri_on (ri_ow y), ix) hnest
            dsimp only at h7
            exact h7
          have hgoal := after (va_runSN (As := as.map (ri_cv z b)) (rest := r.map (ri_cv z b)) (g := F0 m pc lm ((as.reverse ++ r).map (ri_cv z b))) ⟨hx, hb, hml, hown, hts⟩ hM ⟨va_cnB (ri_na e0.2.2.2.1) hts (ri_ws_good hz179) rfl rfl rfl hnw (hin _ (by simp)) m2 hroom, hin _ (by simp), trivial⟩ ⟨ri_Pc_blind, hpre⟩ rfl (by rw [List.length_map]; exact hAs) h4.1 (by show (as.reverse ++ r).map (ri_cv z b) = _; rw [List.map_append, List.map_reverse]) (lv_room (pc := pc) hsum) hd hf)
          exact hgoal
      · obtain rfl : len = 3 := by simpa [ri_lok, ri_ln] using hl
        have hgd : ∀ w ∈ ri_mw e0, goodWord w = true := fun w hw => (f2 w hw).2.resolve_right (by rw [hk0]; decide)
        obtain ⟨n1, n2⟩ := ri_ML_init e0 f1 hk0
        unfold ri_mw at hwd hgd
        rw [hk0, f3, f4] at hwd hgd
        have hin : ∀ w ∈ ([.methodLink (ri_on (ri_ow y)) ix (ri_nm e0.2.2.2.1), .instanceMethod (ri_nm e0.2.2.2.1), .initialized (ri_nm e0.2.2.2.1).cls] : List Jvm.Cond), w.before args s = true := fun w hw => hts w (hwd w hw (hgd w hw))
        have hws : ri_ws e0.2.2.2.1 = Jvm.Cond.code (ri_nm e0.2.2.2.1) (ri_bc e0.2.2.2.1) (ri_ml e0.2.2.2.1) none :: ri_WS := by unfold ri_ws; rw [n2]
        have hgoal := after (va_runI (As := As.map (ri_cv z b)) (b := z + a) (rest := r.map (ri_cv z b)) (g := F0 m pc lm ((As.reverse ++ .ref a :: r).map (ri_cv z b))) ⟨hx, hb, hml, hown, hts⟩ hM (cwI (ri_na e0.2.2.2.1) hts (ri_ws_good hz179) hws rfl rfl (hin _ (by simp)) (hin (.methodLink (ri_on (ri_ow y)) ix (ri_nm e0.2.2.2.1)) (by simp)) (hin _ (by simp)) n1 m2 hroom) ⟨ri_Pc_blind, hpre⟩ rfl (by rw [List.length_map]; exact hAs) h4.1 (by show (As.reverse ++ .ref a :: r).map (ri_cv z b) = _; rw [List.map_append, List.map_reverse]; rfl) (lv_room (pc := pc) hsum) hd hf)
        exact hgoal
end

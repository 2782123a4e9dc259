/-! THE RUNS IN CONTINUATION FORM: rv, ev; each instruction an equation -/
theorem ri_run_more {sc : Nat × (Nat → Int32)} : ∀ (n y : Nat) (cf : ri_C) (x : ri_X), ri_run sc n y cf = some x → ri_run sc (n + 1) y cf = some x := by
  intro n
  induction n with
  | zero => intro y cf x h; cases h
  | succ n ih =>
    intro y cf x h
    obtain ⟨i, len, hd, hl, ⟨c', he, h⟩ | he | ⟨zz, as, c', x1, he, hq, h1, h2⟩⟩ := ri_run_succ h
    · unfold ri_run
      simp only [hd, hl, he, if_true]
      exact ih _ _ _ h
    · unfold ri_run
      simp only [hd, hl, he, if_true]
    · unfold ri_run
      simp only [hd, hl, he, if_true, hq, and_self, ih _ _ _ h1]
      exact ih _ _ _ h2
theorem ri_run_le {sc : Nat × (Nat → Int32)} {n k y : Nat} {cf : ri_C} {x : ri_X} (h : ri_run sc n y cf = some x) (hk : n ≤ k) : ri_run sc k y cf = some x := by
  obtain ⟨d, rfl⟩ := Nat.exists_eq_add_of_le hk
  clear hk
  induction d with
  | zero => exact h
  | succ d ih => exact ri_run_more _ _ _ _ ih
def rv (sc : Nat × (Nat → Int32)) (y pc : Nat) (ls : ri_L) (st : List Value) (w : ri_W) (Q : Option Value → ri_W → Prop) : Prop := ∃ n x, ri_run sc n y (pc, ls, st, w) = some x ∧ Q x.1 x.2
def ev (sc : Nat × (Nat → Int32)) (zz : Nat) (as : List Value) (w : ri_W) (Q : Option Value → ri_W → Prop) : Prop := rv sc zz 0 (lv_args 0 as) [] w Q
section
variable {sc : Nat × (Nat → Int32)} {y pc len ix : Nat} {ls ls2 : ri_L} {st : List Value} {w : ri_W} {Q : Option Value → ri_W → Prop} {i : Instr} {cc : ByteArray} {o a ci k ps tgt zz : Nat}
theorem rv_next {c' : ri_C} (hb : ri_bc y = cc) (hd : decode cc pc = .ok (i, len)) (hl : ri_lok i len = true) (he : ri_ex y sc i pc ls st w = some (.inl c')) : rv sc y pc ls st w Q = rv sc y c'.1 c'.2.1 c'.2.2.1 c'.2.2.2 Q := by
  subst hb
  apply propext
  constructor
  · rintro ⟨n, x, h, hq⟩
    cases n with
    | zero => cases h
    | succ n =>
      unfold ri_run at h
      simp only [hd, hl, he, if_true] at h
      exact ⟨n, x, h, hq⟩
  · rintro ⟨n, x, h, hq⟩
    refine ⟨n + 1, x, ?_, hq⟩
    unfold ri_run
    simp only [hd, hl, he, if_true]
    exact h
theorem rv_stop (hb : ri_bc y = cc) (hd : decode cc pc = .ok (i, len)) (he : ri_ex y sc i pc ls st w = none) : rv sc y pc ls st w Q = False := by
  subst hb
  apply eq_false
  rintro ⟨n, x, h, hq⟩
  cases n with
  | zero => cases h
  | succ n =>
    unfold ri_run at h
    simp only [hd, he] at h
    split at h <;> cases h
theorem rv_ret {v : Option Value} {w' : ri_W} (hb : ri_bc y = cc) (hd : decode cc pc = .ok (i, len)) (hl : ri_lok i len = true) (he : ri_ex y sc i pc ls st w = some (.inr (.inl (v, w')))) : rv sc y pc ls st w Q = Q v w' := by
  subst hb
  apply propext
  constructor
  · rintro ⟨n, x, h, hq⟩
    cases n with
    | zero => cases h
    | succ n =>
      unfold ri_run at h
      simp only [hd, hl, he, if_true] at h
      cases h
      exact hq
  · intro hq
    refine ⟨1, (v, w'), ?_, hq⟩
    unfold ri_run
    simp only [hd, hl, he, if_true]
def c_v (v : Option Value) (K : Value → Prop) (K0 : Prop) : Prop := match v with
  | some u => K u
  | none => K0
theorem c_v_some {u : Value} {K : Value → Prop} {K0 : Prop} : c_v (some u) K K0 = K u := rfl
theorem c_v_none {K : Value → Prop} {K0 : Prop} : c_v none K K0 = K0 := rfl
theorem rv_call {as : List Value} {pc' : Nat} {st' : List Value} {w' : ri_W} (hb : ri_bc y = cc) (hd : decode cc pc = .ok (i, len)) (hl : ri_lok i len = true) (he : ri_ex y sc i pc ls st w = some (.inr (.inr (zz, as, (pc', ls2, st', w'))))) (hc : ri_rk zz < ri_rk y ∧ zz < 100 ∧ (lg_sl as).length ≤ ri_ml zz) :
    rv sc y pc ls st w Q = ev sc zz as w' (fun v w2 => c_v v (fun u => rv sc y pc' ls2 (u :: st') w2 Q) (rv sc y pc' ls2 st' w2 Q)) := by
  subst hb
  have hv : ∀ (v : Option Value) (w2 : ri_W), c_v v (fun u => rv sc y pc' ls2 (u :: st') w2 Q) (rv sc y pc' ls2 st' w2 Q) = rv sc y pc' ls2 (v.toList ++ st') w2 Q := fun v w2 => by cases v <;> rfl
  apply propext
  constructor
  · rintro ⟨n, x, h, hq⟩
    cases n with
    | zero => cases h
    | succ n =>
      unfold ri_run at h
      simp only [hd, hl, he, if_true, hc, and_self] at h
      split at h
      · rename_i x1 h1
        refine ⟨n, x1, h1, ?_⟩
        dsimp only
        rw [hv]
        exact ⟨n, x, h, hq⟩
      · cases h
  · rintro ⟨n, x1, h1, hk⟩
    rw [hv] at hk
    obtain ⟨n2, x, h2, hq⟩ := hk
    refine ⟨max n n2 + 1, x, ?_, hq⟩
    unfold ri_run
    simp only [hd, hl, he, if_true, hc, and_self, ri_run_le h1 (Nat.le_max_left n n2)]
    exact ri_run_le h2 (Nat.le_max_right n n2)
def c_g (v : Option Value) (K : Value → Prop) : Prop := match v with
  | some u => K u
  | none => False
theorem c_g_some {u : Value} {K : Value → Prop} : c_g (some u) K = K u := rfl
def c_p (v : Option ri_W) (K : ri_W → Prop) : Prop := match v with
  | some u => K u
  | none => False
theorem c_p_some {u : ri_W} {K : ri_W → Prop} : c_p (some u) K = K u := rfl
def c_I (v : Option (Nat × (Nat → Int32))) (K : Nat → (Nat → Int32) → Prop) : Prop := match v with
  | some u => K u.1 u.2
  | none => False
theorem c_I_some {n : Nat} {f : Nat → Int32} {K : Nat → (Nat → Int32) → Prop} : c_I (some (n, f)) K = K n f := rfl
def c_J (v : Option (Nat × (Nat → Int64))) (K : Nat → (Nat → Int64) → Prop) : Prop := match v with
  | some u => K u.1 u.2
  | none => False
theorem c_J_some {n : Nat} {f : Nat → Int64} {K : Nat → (Nat → Int64) → Prop} : c_J (some (n, f)) K = K n f := rfl
def c_S (v : Option (Nat × (Nat → Option Nat))) (K : Nat → (Nat → Option Nat) → Prop) : Prop := match v with
  | some u => K u.1 u.2
  | none => False
theorem c_S_some {n : Nat} {f : Nat → Option Nat} {K : Nat → (Nat → Option Nat) → Prop} : c_S (some (n, f)) K = K n f := rfl
def c_N (v : Option Nat) (K : Nat → Prop) : Prop := match v with
  | some u => K u
  | none => False
theorem c_N_some {n : Nat} {K : Nat → Prop} : c_N (some n) K = K n := rfl
def c_o (v : Option (Nat × List Value)) (ci : Nat) (P : Prop) : Prop := match v with
  | some u => if u.1 = ci then P else False
  | none => False
theorem c_o_some {ci : Nat} {fs : List Value} {P : Prop} : c_o (some (ci, fs)) ci P = P := by
  unfold c_o
  simp
/-- a truth value that is returned -/
def c_b (x : Int32) (P : Prop) : Prop := if (x == 0 || x == 1) = true then P else False
theorem c_b_0 {P : Prop} : c_b 0 P = P := by
  unfold c_b
  simp
theorem c_b_1 {P : Prop} : c_b 1 P = P := by
  unfold c_b
  simp
theorem c_b_if {c : Prop} [Decidable c] {P : Prop} : c_b (if c then 1 else 0) P = P := by
  split
  · exact c_b_1
  · exact c_b_0
theorem rv_gf {e3 e4 : Nat} (hb : ri_bc y = cc) (ho : ri_ow y = o) (hd : decode cc pc = .ok (.getfield ix, 3)) (hf : ri_flk o ix = some (e3, e4, ci, k, ps)) : rv sc y pc ls (.ref a :: st) w Q = c_g (ri_gf w a ci k) (fun v => rv sc y (pc + 3) ls (v :: st) w Q) := by
  subst ho
  cases hg : ri_gf w a ci k with
  | none => exact rv_stop hb hd (by simp only [ri_ex, ri_xgf, hf, hg])
  | some v => exact rv_next hb hd rfl (show (_ : ri_R) = some (.inl (pc + 3, ls, v :: st, w)) by simp only [ri_ex, ri_xgf, hf, hg]; rfl)
theorem rv_pf {e3 e4 : Nat} {v : Value} (hb : ri_bc y = cc) (ho : ri_ow y = o) (hd : decode cc pc = .ok (.putfield ix, 3)) (hf : ri_flk o ix = some (e3, e4, ci, k, ps)) (hv : ri_pok y ci k v = true) : rv sc y pc ls (v :: .ref a :: st) w Q = c_p (ri_pf w a ci k v) (fun w' => rv sc y (pc + 3) ls st w' Q) := by
  subst ho
  cases hg : ri_pf w a ci k v with
  | none => exact rv_stop hb hd (by simp only [ri_ex, ri_xpf, hf, hv, hg, if_true])
  | some w' => exact rv_next hb hd rfl (show (_ : ri_R) = some (.inl (pc + 3, ls, st, w')) by simp only [ri_ex, ri_xpf, hf, hv, hg, if_true]; rfl)
theorem rv_ia {j : Int32} (hb : ri_bc y = cc) (hd : decode cc pc = .ok (.iaload, 1)) : rv sc y pc ls (.int j :: .ref a :: st) w Q = c_I (ri_gI w a) (fun n f => if ri_in j n = true then rv sc y (pc + 1) ls (.int (f j.toNatClampNeg) :: st) w Q else False) := by
  cases hg : ri_gI w a with
  | none => exact rv_stop hb hd (by simp only [ri_ex, ri_xia, hg])
  | some x =>
    obtain ⟨n, f⟩ := x
    rw [c_I_some]
    split
    · rename_i h
      exact rv_next hb hd rfl (show (_ : ri_R) = some (.inl (pc + 1, ls, .int (f j.toNatClampNeg) :: st, w)) by simp only [ri_ex, ri_xia, hg, h, if_true]; rfl)
    · rename_i h
      exact rv_stop hb hd (by simp only [ri_ex, ri_xia, hg, h]; rfl)
theorem rv_ias {j : Int32} {q : Nat} (hb : ri_bc y = cc) (hd : decode cc pc = .ok (.iaload, 1)) : rv sc y pc ls (.int j :: .retAddr q :: st) w Q = if ri_in j sc.1 = true then rv sc y (pc + 1) ls (.int (sc.2 j.toNatClampNeg) :: st) w Q else False := by
  split
  · rename_i h
    exact rv_next hb hd rfl (show (_ : ri_R) = some (.inl (pc + 1, ls, .int (sc.2 j.toNatClampNeg) :: st, w)) by simp only [ri_ex, ri_xia, h, if_true]; rfl)
  · rename_i h
    exact rv_stop hb hd (by simp only [ri_ex, ri_xia, h]; rfl)
theorem rv_ja {j : Int32} (hb : ri_bc y = cc) (hd : decode cc pc = .ok (.laload, 1)) : rv sc y pc ls (.int j :: .ref a :: st) w Q = c_J (ri_gJ w a) (fun n f => if ri_in j n = true then rv sc y (pc + 1) ls (.long (f j.toNatClampNeg) :: st) w Q else False) := by
  cases hg : ri_gJ w a with
  | none => exact rv_stop hb hd (by simp only [ri_ex, ri_xja, hg])
  | some x =>
    obtain ⟨n, f⟩ := x
    rw [c_J_some]
    split
    · rename_i h
      exact rv_next hb hd rfl (show (_ : ri_R) = some (.inl (pc + 1, ls, .long (f j.toNatClampNeg) :: st, w)) by simp only [ri_ex, ri_xja, hg, h, if_true]; rfl)
    · rename_i h
      exact rv_stop hb hd (by simp only [ri_ex, ri_xja, hg, h]; rfl)
theorem rv_aa {j : Int32} (hb : ri_bc y = cc) (hd : decode cc pc = .ok (.aaload, 1)) : rv sc y pc ls (.int j :: .ref a :: st) w Q = c_S (ri_gS w a) (fun n f => if ri_in j n = true then rv sc y (pc + 1) ls (va_rf (f j.toNatClampNeg) :: st) w Q else False) := by
  cases hg : ri_gS w a with
  | none => exact rv_stop hb hd (by simp only [ri_ex, ri_xaa, hg])
  | some x =>
    obtain ⟨n, f⟩ := x
    rw [c_S_some]
    split
    · rename_i h
      exact rv_next hb hd rfl (show (_ : ri_R) = some (.inl (pc + 1, ls, va_rf (f j.toNatClampNeg) :: st, w)) by simp only [ri_ex, ri_xaa, hg, h, if_true]; rfl)
    · rename_i h
      exact rv_stop hb hd (by simp only [ri_ex, ri_xaa, hg, h]; rfl)
theorem rv_is {j x : Int32} (hb : ri_bc y = cc) (hd : decode cc pc = .ok (.iastore, 1)) : rv sc y pc ls (.int x :: .int j :: .ref a :: st) w Q = c_I (ri_gI w a) (fun n f => if ri_in j n = true then rv sc y (pc + 1) ls st (w.set a (ri_I n (upd f j.toNatClampNeg x))) Q else False) := by
  cases hg : ri_gI w a with
  | none => exact rv_stop hb hd (by simp only [ri_ex, ri_xis, hg])
  | some q =>
    obtain ⟨n, f⟩ := q
    rw [c_I_some]
    split
    · rename_i h
      exact rv_next hb hd rfl (show (_ : ri_R) = some (.inl (pc + 1, ls, st, w.set a (ri_I n (upd f j.toNatClampNeg x)))) by simp only [ri_ex, ri_xis, hg, h, if_true]; rfl)
    · rename_i h
      exact rv_stop hb hd (by simp only [ri_ex, ri_xis, hg, h]; rfl)
theorem rv_js {j : Int32} {x : Int64} (hb : ri_bc y = cc) (hd : decode cc pc = .ok (.lastore, 1)) : rv sc y pc ls (.long x :: .int j :: .ref a :: st) w Q = c_J (ri_gJ w a) (fun n f => if ri_in j n = true then rv sc y (pc + 1) ls st (w.set a (ri_J n (vp_updL f j.toNatClampNeg x))) Q else False) := by
  cases hg : ri_gJ w a with
  | none => exact rv_stop hb hd (by simp only [ri_ex, ri_xjs, hg])
  | some q =>
    obtain ⟨n, f⟩ := q
    rw [c_J_some]
    split
    · rename_i h
      exact rv_next hb hd rfl (show (_ : ri_R) = some (.inl (pc + 1, ls, st, w.set a (ri_J n (vp_updL f j.toNatClampNeg x)))) by simp only [ri_ex, ri_xjs, hg, h, if_true]; rfl)
    · rename_i h
      exact rv_stop hb hd (by simp only [ri_ex, ri_xjs, hg, h]; rfl)
theorem rv_as {j : Int32} {v : Nat} (hb : ri_bc y = cc) (hd : decode cc pc = .ok (.aastore, 1)) : rv sc y pc ls (.ref v :: .int j :: .ref a :: st) w Q = c_S (ri_gS w a) (fun n f => c_o (ri_gO w v) 2 (if ri_in j n = true then rv sc y (pc + 1) ls st (w.set a (ri_S n (va_up f j.toNatClampNeg (some v)))) Q else False)) := by
  cases hg : ri_gS w a with
  | none => exact rv_stop hb hd (by simp only [ri_ex, ri_xas, hg])
  | some q =>
    obtain ⟨n, f⟩ := q
    rw [c_S_some]
    cases ho : ri_gO w v with
    | none => exact rv_stop hb hd (by simp only [ri_ex, ri_xas, hg, ho])
    | some r =>
      obtain ⟨c, fs⟩ := r
      show _ = if c = 2 then _ else False
      split
      · rename_i hc
        split
        · rename_i h
          exact rv_next hb hd rfl (show (_ : ri_R) = some (.inl (pc + 1, ls, st, w.set a (ri_S n (va_up f j.toNatClampNeg (some v))))) by simp only [ri_ex, ri_xas, hg, ho, h, hc, and_self, if_true]; rfl)
        · rename_i h
          exact rv_stop hb hd (by simp only [ri_ex, ri_xas, hg, ho, h]; rfl)
      · rename_i hc
        exact rv_stop hb hd (by simp only [ri_ex, ri_xas, hg, ho, hc, and_false]; rfl)
theorem rv_al (hb : ri_bc y = cc) (hd : decode cc pc = .ok (.arraylength, 1)) : rv sc y pc ls (.ref a :: st) w Q = c_N (ri_gN w a) (fun n => rv sc y (pc + 1) ls (.int (Int32.ofNat n) :: st) w Q) := by
  cases hg : ri_gN w a with
  | none => exact rv_stop hb hd (by simp only [ri_ex, ri_xal, hg])
  | some n => exact rv_next hb hd rfl (show (_ : ri_R) = some (.inl (pc + 1, ls, .int (Int32.ofNat n) :: st, w)) by simp only [ri_ex, ri_xal, hg]; rfl)
theorem rv_jump {off : Int} {c' : ri_C} (h : ri_jmp y pc off ls st w = some (.inl c')) : 0 ≤ (pc : Int) + off := (ri_jmp_eq h).1
theorem rv_if {cn : ClassFile.Cond} {off : Int} {x : Int32} {P : Prop} [Decidable P] (hb : ri_bc y = cc) (hd : decode cc pc = .ok (.ifCond cn off, 3)) (hc : ri_cd cn x 0 = decide P) (ht : ri_jmp y pc off ls st w = some (.inl (tgt, ls2, st, w))) : rv sc y pc ls (.int x :: st) w Q = if P then rv sc y tgt ls2 st w Q else rv sc y (pc + 3) ls st w Q := by
  have h0 := rv_jump ht
  by_cases h : P
  · rw [if_pos h]
    exact rv_next hb hd rfl (show (_ : ri_R) = some (.inl (tgt, ls2, st, w)) by simp only [ri_ex, ri_xif, h0, hc, h, decide_true, if_true]; exact ht)
  · rw [if_neg h]
    exact rv_next hb hd rfl (show (_ : ri_R) = some (.inl (pc + 3, ls, st, w)) by simp only [ri_ex, ri_xif, h0, hc, h, decide_false, if_true]; rfl)
theorem rv_ic {cn : ClassFile.Cond} {off : Int} {x x2 : Int32} {P : Prop} [Decidable P] (hb : ri_bc y = cc) (hd : decode cc pc = .ok (.if_icmp cn off, 3)) (hc : ri_cd cn x x2 = decide P) (ht : ri_jmp y pc off ls st w = some (.inl (tgt, ls2, st, w))) : rv sc y pc ls (.int x2 :: .int x :: st) w Q = if P then rv sc y tgt ls2 st w Q else rv sc y (pc + 3) ls st w Q := by
  have h0 := rv_jump ht
  by_cases h : P
  · rw [if_pos h]
    exact rv_next hb hd rfl (show (_ : ri_R) = some (.inl (tgt, ls2, st, w)) by simp only [ri_ex, ri_xic, h0, hc, h, decide_true, if_true]; exact ht)
  · rw [if_neg h]
    exact rv_next hb hd rfl (show (_ : ri_R) = some (.inl (pc + 3, ls, st, w)) by simp only [ri_ex, ri_xic, h0, hc, h, decide_false, if_true]; rfl)
theorem rv_iv {e3 e4 : Nat} {ps : List Nat} {As : List Value} (hb : ri_bc y = cc) (ho : ri_ow y = o) (hd : decode cc pc = .ok (.invokevirtual ix, 3)) (hm : ri_mlk o ix = some (e3, e4, 0, zz, ps)) (how : ri_ow zz = ci) (hci : ci < 5) (hlen : As.length = ri_na zz) (hsh : ri_sh st = true) (hc : ri_rk zz < ri_rk y ∧ zz < 100 ∧ (lg_sl (.ref a :: As)).length ≤ ri_ml zz) :
    rv sc y pc ls (As.reverse ++ .ref a :: st) w Q = c_o (ri_gO w a) ci (ev sc zz (.ref a :: As) w (fun v w2 => c_v v (fun u => rv sc y (pc + 3) ls (u :: st) w2 Q) (rv sc y (pc + 3) ls st w2 Q))) := by
  subst ho; subst how
  have hdr : (As.reverse ++ Value.ref a :: st).drop (ri_na zz) = .ref a :: st := by rw [← hlen, ← List.length_reverse, List.drop_left]
  have htk : (As.reverse ++ Value.ref a :: st).take (ri_na zz) = As.reverse := by rw [← hlen, ← List.length_reverse, List.take_left]
  cases hg : ri_gO w a with
  | none => exact rv_stop hb hd (by simp only [ri_ex, ri_xiv, hm, hdr, hg, Option.map_none, reduceCtorEq, false_and, and_false, if_true, if_false])
  | some x =>
    obtain ⟨c, fs⟩ := x
    show _ = if c = ri_ow zz then _ else False
    split
    · rename_i h
      exact rv_call hb hd rfl (by simp only [ri_ex, ri_xiv, hm, hdr, htk, hg, hsh, h, hci, Option.map_some, and_self, if_true, List.reverse_reverse]; rfl) hc
    · rename_i h
      exact rv_stop hb hd (by simp only [ri_ex, ri_xiv, hm, hdr, hg, Option.map_some, Option.some.injEq, h, false_and, and_false, if_true, if_false])
theorem rv_iss {e3 e4 kd : Nat} {ps : List Nat} {as : List Value} (hb : ri_bc y = cc) (ho : ri_ow y = o) (hd : decode cc pc = .ok (.invokestatic ix, 3)) (hm : ri_mlk o ix = some (e3, e4, kd, zz, ps)) (hkd : kd = 1 ∨ kd = 2) (hlen : as.length = ri_na zz) (hsh : ri_sh st = true) (hc : ri_rk zz < ri_rk y ∧ zz < 100 ∧ (lg_sl as).length ≤ ri_ml zz) :
    rv sc y pc ls (as.reverse ++ st) w Q = ev sc zz as w (fun v w2 => c_v v (fun u => rv sc y (pc + 3) ls (u :: st) w2 Q) (rv sc y (pc + 3) ls st w2 Q)) := by
  subst ho
  have hdr : (as.reverse ++ st).drop (ri_na zz) = st := by rw [← hlen, ← List.length_reverse, List.drop_left]
  have htk : (as.reverse ++ st).take (ri_na zz) = as.reverse := by rw [← hlen, ← List.length_reverse, List.take_left]
  have hln : ri_na zz ≤ (as.reverse ++ st).length := by rw [List.length_append, List.length_reverse, hlen]; omega
  exact rv_call hb hd rfl (by simp only [ri_ex, ri_xis_, hm, hkd, hdr, htk, hln, hsh, and_self, if_true, List.reverse_reverse]; rfl) hc
theorem rv_ip {e3 e4 : Nat} {ps : List Nat} {As : List Value} (hb : ri_bc y = cc) (ho : ri_ow y = o) (hd : decode cc pc = .ok (.invokespecial ix, 3)) (hm : ri_mlk o ix = some (e3, e4, 3, zz, ps)) (hlen : As.length = ri_na zz) (hsh : ri_sh st = true) (hc : ri_rk zz < ri_rk y ∧ zz < 100 ∧ (lg_sl (.ref a :: As)).length ≤ ri_ml zz) :
    rv sc y pc ls (As.reverse ++ .ref a :: st) w Q = ev sc zz (.ref a :: As) w (fun v w2 => c_v v (fun u => rv sc y (pc + 3) ls (u :: st) w2 Q) (rv sc y (pc + 3) ls st w2 Q)) := by
  subst ho
  have hdr : (As.reverse ++ Value.ref a :: st).drop (ri_na zz) = .ref a :: st := by rw [← hlen, ← List.length_reverse, List.drop_left]
  have htk : (As.reverse ++ Value.ref a :: st).take (ri_na zz) = As.reverse := by rw [← hlen, ← List.length_reverse, List.take_left]
  exact rv_call hb hd rfl (by simp only [ri_ex, ri_xip, hm, hdr, htk, hsh, if_true, List.reverse_reverse]; rfl) hc
theorem rv_obj {e3 e4 e5 : Nat} {ps : List Nat} (hb : ri_bc y = cc) (ho : ri_ow y = o) (hd : decode cc pc = .ok (.invokespecial ix, 3)) (hm : ri_mlk o ix = some (e3, e4, 4, e5, ps)) (hsh : ri_sh st = true) (hrk : 1 ≤ ri_rk y) : rv sc y pc ls (.ref a :: st) w Q = rv sc y (pc + 3) ls st w Q := by
  subst ho
  exact rv_next hb hd rfl (show (_ : ri_R) = some (.inl (pc + 3, ls, st, w)) by simp only [ri_ex, ri_xip, hm, hsh, hrk, and_self, if_true]; rfl)
theorem rv_mn {e3 e4 e5 : Nat} {ps : List Nat} {x x2 : Int32} (hb : ri_bc y = cc) (ho : ri_ow y = o) (hd : decode cc pc = .ok (.invokestatic ix, 3)) (hm : ri_mlk o ix = some (e3, e4, 5, e5, ps)) (hsh : ri_sh st = true) (hrk : 1 ≤ ri_rk y) : rv sc y pc ls (.int x2 :: .int x :: st) w Q = rv sc y (pc + 3) ls (.int (if x2 < x then x2 else x) :: st) w Q := by
  subst ho
  exact rv_next hb hd rfl (show (_ : ri_R) = some (.inl (pc + 3, ls, .int (if x2 < x then x2 else x) :: st, w)) by simp only [ri_ex, ri_xis_, ri_xmn, hm, hsh, hrk, if_true]; rfl)
theorem rv_mx {e3 e4 e5 : Nat} {ps : List Nat} {x x2 : Int32} (hb : ri_bc y = cc) (ho : ri_ow y = o) (hd : decode cc pc = .ok (.invokestatic ix, 3)) (hm : ri_mlk o ix = some (e3, e4, 6, e5, ps)) (hsh : ri_sh st = true) (hrk : 1 ≤ ri_rk y) : rv sc y pc ls (.int x2 :: .int x :: st) w Q = rv sc y (pc + 3) ls (.int (if x < x2 then x2 else x) :: st) w Q := by
  subst ho
  exact rv_next hb hd rfl (show (_ : ri_R) = some (.inl (pc + 3, ls, .int (if x < x2 then x2 else x) :: st, w)) by simp only [ri_ex, ri_xis_, ri_xmx, hm, hsh, hrk, if_true]; rfl)
theorem rv_cp {e3 e4 e5 : Nat} {ps : List Nat} {n dp sp : Int32} {a0 : Nat} (hb : ri_bc y = cc) (ho : ri_ow y = o) (hd : decode cc pc = .ok (.invokestatic ix, 3)) (hm : ri_mlk o ix = some (e3, e4, 7, e5, ps)) (hrk : 1 ≤ ri_rk y) {c' : ri_C} (h : ri_xcp pc ls (.int n :: .int dp :: .ref a :: .int sp :: .ref a0 :: st) w = some (.inl c')) : rv sc y pc ls (.int n :: .int dp :: .ref a :: .int sp :: .ref a0 :: st) w Q = rv sc y c'.1 c'.2.1 c'.2.2.1 c'.2.2.2 Q := by
  subst ho
  exact rv_next hb hd rfl (by simp only [ri_ex, ri_xis_, hm, hrk, if_true]; exact h)
theorem rv_irb {x : Int32} (hb : ri_bc y = cc) (hd : decode cc pc = .ok (.ireturn, 1)) (hrt : ri_rt y = some .boolean) : rv sc y pc ls [.int x] w Q = c_b x (Q (some (.int x)) w) := by
  unfold c_b
  split
  · rename_i h
    exact rv_ret hb hd rfl (by simp only [ri_ex, ri_xir, hrt, ri_okr, h, if_true]; rfl)
  · rename_i h
    exact rv_stop hb hd (by simp only [ri_ex, ri_xir, hrt, ri_okr, h]; rfl)
theorem rv_iri {x : Int32} (hb : ri_bc y = cc) (hd : decode cc pc = .ok (.ireturn, 1)) (hrt : ri_rt y = some .int) : rv sc y pc ls [.int x] w Q = Q (some (.int x)) w :=
  rv_ret hb hd rfl (by simp only [ri_ex, ri_xir, hrt, ri_okr, if_true]; rfl)
theorem rv_arr {nm : String} (hb : ri_bc y = cc) (hd : decode cc pc = .ok (.areturn, 1)) (hrt : ri_rt y = some (.object nm)) : rv sc y pc ls [.ref a] w Q = Q (some (.ref a)) w :=
  rv_ret hb hd rfl (by simp only [ri_ex, ri_xar, hrt]; rfl)
theorem rv_lr {x : Int64} (hb : ri_bc y = cc) (hd : decode cc pc = .ok (.lreturn, 1)) (hrt : ri_rt y = some .long) : rv sc y pc ls [.long x] w Q = Q (some (.long x)) w :=
  rv_ret hb hd rfl (by simp only [ri_ex, ri_xlr, hrt, if_true]; rfl)
theorem rv_vr (hb : ri_bc y = cc) (hd : decode cc pc = .ok (.return_, 1)) (hrt : ri_rt y = none) : rv sc y pc ls [] w Q = Q none w :=
  rv_ret hb hd rfl (by simp only [ri_ex, ri_xvr, hrt, if_true]; rfl)
end
section
variable {sc : Nat × (Nat → Int32)} {y pc len ix : Nat} {ls ls2 : ri_L} {st : List Value} {w : ri_W} {Q : Option Value → ri_W → Prop} {i : Instr} {cc : ByteArray} {o a ci k ps tgt zz : Nat}
theorem rv_idiv {x x2 : Int32} (hb : ri_bc y = cc) (hd : decode cc pc = .ok (.idiv, 1)) : rv sc y pc ls (.int x2 :: .int x :: st) w Q = if x2 = 0 then False else rv sc y (pc + 1) ls (.int (x / x2) :: st) w Q := by
  split
  · rename_i h
    exact rv_stop hb hd (by simp only [ri_ex, ri_xd, h, if_true])
  · rename_i h
    exact rv_next hb hd rfl (show (_ : ri_R) = some (.inl (pc + 1, ls, .int (x / x2) :: st, w)) by simp only [ri_ex, ri_xd, h, if_false]; rfl)
theorem rv_irem {x x2 : Int32} (hb : ri_bc y = cc) (hd : decode cc pc = .ok (.irem, 1)) : rv sc y pc ls (.int x2 :: .int x :: st) w Q = if x2 = 0 then False else rv sc y (pc + 1) ls (.int (x - x / x2 * x2) :: st) w Q := by
  split
  · rename_i h
    exact rv_stop hb hd (by simp only [ri_ex, ri_xd, h, if_true])
  · rename_i h
    exact rv_next hb hd rfl (show (_ : ri_R) = some (.inl (pc + 1, ls, .int (x - x / x2 * x2) :: st, w)) by simp only [ri_ex, ri_xd, h, if_false]; rfl)
def c_q (v : Option Nat) (K : Nat → Prop) (K0 : Prop) : Prop := match v with
  | some u => K u
  | none => K0
theorem c_q_some {u : Nat} {K : Nat → Prop} {K0 : Prop} : c_q (some u) K K0 = K u := rfl
theorem rv_aaq {j : Int32} (hb : ri_bc y = cc) (hd : decode cc pc = .ok (.aaload, 1)) : rv sc y pc ls (.int j :: .ref a :: st) w Q = c_S (ri_gS w a) (fun n f => if ri_in j n = true then c_q (f j.toNatClampNeg) (fun v => rv sc y (pc + 1) ls (.ref v :: st) w Q) (rv sc y (pc + 1) ls (.null :: st) w Q) else False) := by
  rw [rv_aa hb hd]
  congr 1
  funext n f
  cases f j.toNatClampNeg <;> rfl
theorem rv_naI {x : Int32} (hb : ri_bc y = cc) (hd : decode cc pc = .ok (.newarray .int, 2)) : rv sc y pc ls (.int x :: st) w Q = if ¬ x < 0 ∧ x.toNatClampNeg ≤ 100000 then rv sc y (pc + 2) ls (.ref w.length :: st) (w ++ [ri_I x.toNatClampNeg (fun _ => 0)]) Q else False := by
  split
  · rename_i h
    exact rv_next hb hd rfl (show (_ : ri_R) = some (.inl (pc + 2, ls, .ref w.length :: st, w ++ [ri_I x.toNatClampNeg (fun _ => 0)])) by simp only [ri_ex, ri_xna]; rw [if_pos h]; rfl)
  · rename_i h
    exact rv_stop hb hd (by simp only [ri_ex, ri_xna]; rw [if_neg h])
theorem rv_naJ {x : Int32} (hb : ri_bc y = cc) (hd : decode cc pc = .ok (.newarray .long, 2)) : rv sc y pc ls (.int x :: st) w Q = if ¬ x < 0 ∧ x.toNatClampNeg ≤ 100000 then rv sc y (pc + 2) ls (.ref w.length :: st) (w ++ [ri_J x.toNatClampNeg (fun _ => 0)]) Q else False := by
  split
  · rename_i h
    exact rv_next hb hd rfl (show (_ : ri_R) = some (.inl (pc + 2, ls, .ref w.length :: st, w ++ [ri_J x.toNatClampNeg (fun _ => 0)])) by simp only [ri_ex, ri_xna]; rw [if_pos h]; rfl)
  · rename_i h
    exact rv_stop hb hd (by simp only [ri_ex, ri_xna]; rw [if_neg h])
theorem rv_naS {x : Int32} (hb : ri_bc y = cc) (ho : ri_ow y = o) (hd : decode cc pc = .ok (.anewarray 7, 3)) (ho4 : o = 4) : rv sc y pc ls (.int x :: st) w Q = if ¬ x < 0 ∧ x.toNatClampNeg ≤ 100000 then rv sc y (pc + 3) ls (.ref w.length :: st) (w ++ [ri_S x.toNatClampNeg (fun _ => none)]) Q else False := by
  subst ho4
  split
  · rename_i h
    exact rv_next hb hd rfl (show (_ : ri_R) = some (.inl (pc + 3, ls, .ref w.length :: st, w ++ [ri_S x.toNatClampNeg (fun _ => none)])) by simp only [ri_ex, ri_xan]; rw [if_pos ⟨ho, trivial, h⟩]; rfl)
  · rename_i h
    exact rv_stop hb hd (by simp only [ri_ex, ri_xan]; rw [if_neg (fun g => h ⟨g.2.2.1, g.2.2.2⟩)])
/-- System.arraycopy: w from a0 at sp to a at dp, n places -/
def ri_cpw (w : ri_W) (a0 a : Nat) (sp dp n : Int32) : Option ri_W := match ri_gI w a0, ri_gI w a, ri_gJ w a0, ri_gJ w a with
  | some (n0, f), some (n1, g), _, _ => if ¬ sp < 0 ∧ ¬ dp < 0 ∧ ¬ n < 0 ∧ sp.toNatClampNeg + n.toNatClampNeg ≤ n0 ∧ dp.toNatClampNeg + n.toNatClampNeg ≤ n1 then some (w.set a (ri_I n1 (va_cpy f g sp.toNatClampNeg dp.toNatClampNeg n.toNatClampNeg))) else none
  | _, _, some (n0, f), some (n1, g) => if ¬ sp < 0 ∧ ¬ dp < 0 ∧ ¬ n < 0 ∧ sp.toNatClampNeg + n.toNatClampNeg ≤ n0 ∧ dp.toNatClampNeg + n.toNatClampNeg ≤ n1 then some (w.set a (ri_J n1 (va_cpy f g sp.toNatClampNeg dp.toNatClampNeg n.toNatClampNeg))) else none
  | _, _, _, _ => none
theorem ri_cpw_eq {n dp sp : Int32} {a0 : Nat} (hsh : ri_sh st = true) : ri_xcp pc ls (.int n :: .int dp :: .ref a :: .int sp :: .ref a0 :: st) w = match ri_cpw w a0 a sp dp n with
    | some w2 => some (.inl (pc + 3, ls, st, w2))
    | none => none := by
  simp only [ri_xcp, ri_cpw, hsh, and_true]
  rcases ri_gI w a0 with _ | ⟨n0, f⟩ <;> rcases ri_gI w a with _ | ⟨n1, g⟩ <;> rcases ri_gJ w a0 with _ | ⟨n2, f2⟩ <;> rcases ri_gJ w a with _ | ⟨n3, g2⟩ <;> dsimp only <;> first | rfl | (split <;> rfl)
theorem rv_cpc {e3 e4 e5 : Nat} {ps : List Nat} {n dp sp : Int32} {a0 : Nat} (hb : ri_bc y = cc) (ho : ri_ow y = o) (hd : decode cc pc = .ok (.invokestatic ix, 3)) (hm : ri_mlk o ix = some (e3, e4, 7, e5, ps)) (hsh : ri_sh st = true) (hrk : 1 ≤ ri_rk y) : rv sc y pc ls (.int n :: .int dp :: .ref a :: .int sp :: .ref a0 :: st) w Q = c_p (ri_cpw w a0 a sp dp n) (fun w2 => rv sc y (pc + 3) ls st w2 Q) := by
  have key := ri_cpw_eq (pc := pc) (ls := ls) (w := w) (a := a) (n := n) (dp := dp) (sp := sp) (a0 := a0) hsh
  cases hg : ri_cpw w a0 a sp dp n with
  | none =>
    rw [hg] at key
    subst ho
    refine rv_stop hb hd ?_
    simp only [ri_ex, ri_xis_, hm, hrk, if_true]
    exact key
  | some w2 =>
    rw [hg] at key
    exact rv_cp hb ho hd hm hrk key
theorem ri_cpw_I {n0 n1 : Nat} {f g : Nat → Int32} {a0 : Nat} {sp dp n : Int32} (h0 : ri_gI w a0 = some (n0, f)) (h1 : ri_gI w a = some (n1, g)) (h : ¬ sp < 0 ∧ ¬ dp < 0 ∧ ¬ n < 0 ∧ sp.toNatClampNeg + n.toNatClampNeg ≤ n0 ∧ dp.toNatClampNeg + n.toNatClampNeg ≤ n1) : ri_cpw w a0 a sp dp n = some (w.set a (ri_I n1 (va_cpy f g sp.toNatClampNeg dp.toNatClampNeg n.toNatClampNeg))) := by
  unfold ri_cpw
  rw [h0, h1]
  exact if_pos h
theorem ri_cpw_J {n0 n1 : Nat} {f g : Nat → Int64} {a0 : Nat} {sp dp n : Int32} (h0 : ri_gJ w a0 = some (n0, f)) (h1 : ri_gJ w a = some (n1, g)) (hI : ri_gI w a0 = none) (h : ¬ sp < 0 ∧ ¬ dp < 0 ∧ ¬ n < 0 ∧ sp.toNatClampNeg + n.toNatClampNeg ≤ n0 ∧ dp.toNatClampNeg + n.toNatClampNeg ≤ n1) : ri_cpw w a0 a sp dp n = some (w.set a (ri_J n1 (va_cpy f g sp.toNatClampNeg dp.toNatClampNeg n.toNatClampNeg))) := by
  unfold ri_cpw
  rw [hI, h0, h1]
  cases ri_gI w a <;> exact if_pos h
end

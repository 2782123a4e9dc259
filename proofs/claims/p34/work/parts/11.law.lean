/-! THE CLAIM OUT OF ONE WALK OF THE LAW'S BODY. Your part is whole_start (and what it stands on); all else here is the same for every law, but numbers. -/
def R_law : String := "CycleTimetableLaw"
def lw_P (b : Addr) (xs : List Int32) (args : Array Value) (s : State) : Prop := args = #[.ref b] ∧ s.IntsAt b xs ∧ xs.length ≤ 260 ∧ (Jvm.Cond.and given_1 narrow_1).before args s = true
def lw_Q (_ : Array Value) (s : State) (o : Outcome) (t : State) : Prop := o = .returned (some (.int 1)) ∧ Framed s o t [] 600000 7302250
def lw_Z (below : List Frame) (a : Array Value) (s : State) : State → Prop := fun t => ∃ o, t.status = .running ∧ Ended t below o ∧ lw_Q a s o t
/-- the law's own end, with 1 on the stack, nothing written that was there before, its room as the claim has it -/
theorem lw_ret {p : Program} {l : Launch} {e : Env} {s : State} {m : MethodId} {below : List Frame} {meth : Method} {c : Code} {b : Nat} (hx : p.tables.exec = Jvm.exec) (hb : c.code = code) (hr : meth.sig.returnType = ret) (hlocks : meth.locks = false) {pc : Nat} {H : Heap} {ls : Array Slot} (hdg : decode code pc = .ok (.ireturn, 1)) : W p l e room_1 s m #[Value.ref b] below meth c H [] 600000 7302250 (lw_Z below #[Value.ref b] s) (F0 m pc ls [.int 1]) := by
  intro T hT X
  obtain ⟨fs, hret, hrun, hended, hW, hframe⟩ := X.leave (v := some (.int 1)) (hlocks := hlocks) (fun h => by rw [hr] at h; cases h)
  have hmeth' : T.vm.method? m = some meth := X.method'
  refine ⟨T.setFrames fs, ?_, .returned (some (.int 1)), hrun, hended, rfl, ⟨_, rfl⟩, hW, hframe⟩
  jvm_step X.here [X.here.top, hx, hb, hdg, hmeth', hr, ret, narrow_b1]
  (try refine ⟨rfl, ?_⟩); (try refine ⟨rfl, ?_⟩)
  first | (intro acts; rw [hret _ acts rfl rfl rfl]) | rw [hret _ _ rfl rfl rfl]
  exact Steps.refl _
/-- what holds at the law's entry: the machine, the code, the tables' words (any of lw_tbl by 'hts w (by decide +kernel)'), the script of L ints xs at the cell b, what the Statement gives of the start (any of its parts by flat_of_before) -/
def lw_At (p : Program) (s : State) (m : MethodId) (meth : Method) (c : Code) (b L : Nat) (xs : Nat → Int32) : Prop :=
  p.tables.exec = Jvm.exec ∧ c.code = code ∧ meth.sig.returnType = ret ∧ c.maxLocals = 12 ∧ s.vm.findClass R_law = some m.cls ∧ (∀ w ∈ lw_tbl, w.before #[Value.ref b] s = true) ∧ va_X b L xs s s.heap ∧ b < s.heap.size ∧ meth.locks = false ∧ (Jvm.Cond.and given_1 narrow_1).before #[Value.ref b] s = true
theorem ri_arr_known {args : Array Value} {s : State} {ty : FieldType} (hobj : ∀ C, ty ≠ .object C) (h : (Jvm.Cond.arrayClass ty).before args s = true) : ∃ cA : ClassId, ArrOfT s cA ty ∧ va_RA s cA ty := by
  obtain ⟨cA, k, comp, h1, h2, h3⟩ := Cond.arrayClass_spec h
  refine ⟨cA, fun n q => ⟨fun k h => (by cases h), k, h2, comp, h3⟩, ?_⟩
  cases ty with
  | object C => exact absurd rfl (hobj C)
  | _ => exact h1
theorem ri_over_known {args : Array Value} {s : State} {C : String} (h : (Jvm.Cond.arrayOver (.object C)).before args s = true) : ∃ cA : ClassId, ArrOfT s cA (.object C) ∧ va_RA s cA (.object C) := by
  obtain ⟨comp, c, k, h1, h2, h3, h4, h5⟩ := Cond.arrayOver_spec h
  exact ⟨c, fun n q => ⟨fun k h => (by cases h), k, h3, comp, h4⟩, k, comp, h3, h4, h1, h5⟩
theorem ri_cls_words : ∀ ci, ci < 5 → decide (Jvm.Cond.instantiable (ri_cls ci).1 (ri_cls ci).2.2 ∈ lw_tbl) = true := by decide +kernel
theorem ri_lays_tbl {ci : Nat} (h : ci < 5) : ∀ w ∈ u_ws (ri_cls ci).1 (ri_cls ci).2.1 (ri_cls ci).2.2, w ∈ lw_tbl := fun w hw => (List.mem_filter.mp (ri_lays_in h w hw)).1
set_option maxHeartbeats 4000000 in
/-- the law's walk, out of the run of its body -/
theorem ri_whole {p : Program} {e : Env} {s : State} {m : MethodId} {below : List Frame} {meth : Method} {c : Code} (l : Launch) {b L : Nat} {xs : Nat → Int32} (C0 : lw_At p s m meth c b L xs)
    (hrun : ∃ n w', ri_run (L, xs) n 100 (0, [(0, .retAddr 0)], [], []) = some (some (.int 1), w') ∧ w'.length ≤ 600000 ∧ ri_ns w' ≤ 7302250) :
    W p l e room_1 s m #[Value.ref b] below meth c s.heap [] 0 0 (lw_Z below #[Value.ref b] s) (entryFrame m ([Value.ref b] : List Value).toArray 12) := by
  obtain ⟨n, w', hrun, hw1, hw2⟩ := hrun
  obtain ⟨hx, hb, hr, hml, hown, hts, hX, hbl, hlocks, hgv⟩ := id C0
  have hkn : ∀ ci, ∃ (cC : ClassId) (iS : Nat → Nat), ci < 5 → u_Kn s (ri_cls ci).1 (ri_cls ci).2.1 (ri_cls ci).2.2 cC iS := by
    intro ci
    rcases Nat.lt_or_ge ci 5 with h | h
    · obtain ⟨cC, iS, hk⟩ := u_known (C := (ri_cls ci).1) (T := (ri_cls ci).2.1) (N := (ri_cls ci).2.2) (n := (ri_cls ci).2.2) hts (ri_lays_tbl h) (hts _ (of_decide_eq_true (ri_cls_words ci h)))
      exact ⟨cC, iS, fun _ => hk⟩
    · exact ⟨0, fun _ => 0, fun h2 => absurd h2 (by omega)⟩
  obtain ⟨dC, hdC⟩ := Classical.axiomOfChoice hkn
  obtain ⟨dI, hdI⟩ := Classical.axiomOfChoice hdC
  have hai : (Jvm.Cond.arrayClass .int) ∈ lw_tbl := by
    have := List.all_eq_true.mp ri_arrs (.arrayClass .int) (by simp)
    simp only [Bool.and_eq_true, decide_eq_true_eq] at this
    exact this.1
  have haj : (Jvm.Cond.arrayClass .long) ∈ lw_tbl := by
    have := List.all_eq_true.mp ri_arrs (.arrayClass .long) (by simp)
    simp only [Bool.and_eq_true, decide_eq_true_eq] at this
    exact this.1
  obtain ⟨cI, hI⟩ := ri_arr_known (fun _ => by intro h; cases h) (hts _ hai)
  obtain ⟨cJ, hJ⟩ := ri_arr_known (fun _ => by intro h; cases h) (hts _ haj)
  obtain ⟨cS, hS⟩ := ri_over_known (hts _ ri_over)
  have hK : ri_K (dC, dI) cI cJ cS s := by
    refine ⟨⟨fun k q hq => ?_, fun k q hq => ?_⟩, fun q hq => va_Nw.of rfl (hts _ (ri_nests q hq)), va_AO.of (hts _ ri_over)⟩
    · rcases Nat.lt_or_ge k 5 with h | h
      · rw [ri_cls_at h] at hq
        cases hq
        exact hdI k h
      · have := (List.getElem?_eq_some_iff.mp hq).1
        exact absurd this (by show ¬ k < 5; omega)
    · match k, hq with
      | 0, hq => cases hq; exact hI
      | 1, hq => cases hq; exact hJ
      | 2, hq => cases hq; exact hS
      | k + 3, hq => simp at hq
  have C : ri_At (dC, dI) cI cJ cS s.heap.size b (L, xs) room_1 p s m #[Value.ref b] meth c 100 :=
    ⟨hx, hb, hr, hml, hown, fun w hw => hts w (List.mem_filter.mp hw).1, hlocks, fun h => absurd h (by decide), hK, hX, hbl, by decide, by decide⟩
  have hfin : ri_Fin (dC, dI) cI cJ cS s.heap.size b p l e room_1 s m #[Value.ref b] below meth c (lw_Z below #[Value.ref b] s) 100 0 0 (some (.int 1), w') := by
    intro H locs lm pc i st hd hi h1 h2 h3
    rcases hi with ⟨rfl, v, rfl, hv, hk⟩ | ⟨rfl, a, nm, rfl, hv, hk⟩ | ⟨rfl, v, rfl, hv, hk⟩ | ⟨rfl, rfl, hv, hk⟩
    · cases hv
      refine va_forget (fun q hq => h3 q hq) ?_
      refine W.widen (k := 600000) (n := 7302250) (by show w'.length - 0 ≤ _; omega) (by show ri_ns w' - 0 ≤ _; omega) ?_
      exact lw_ret hx hb hr hlocks hd
    · cases hv
    · cases hv
    · cases hv
  have hG := ri_sound (l := l) n 100 (0, [(0, .retAddr 0)], [], []) (some (.int 1), w') hrun C (Nat.zero_le _) (Nat.zero_le _) (by show w'.length - 0 ≤ 600000; omega) (by show ri_ns w' - 0 ≤ 7302250; omega) hfin
  rw [lg_entry_eq]
  have hl := lv_entry ([Value.ref b]) (n := 12) (Nat.le_of_ble_eq_true rfl)
  exact hG s.heap [] _ ⟨rfl, fun k e hk => by simp at hk⟩ (fun _ _ => rfl) (fun _ h => absurd h List.not_mem_nil) hl

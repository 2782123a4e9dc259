/-! WHAT A WORLD OF NUMBERED CELLS IS IN THE MACHINE: the cell k stands at z + k, the script at b -/
def ri_cv (z b : Nat) : Value → Value
  | .ref k => .ref (z + k)
  | .retAddr _ => .ref b
  | v => v
def ri_cE (z b : Nat) (cI cJ cS : ClassId) : ri_E → va_E
  | .inl (.inl (n, f)) => .inl (cI, n, .inl f)
  | .inl (.inr (.inl (n, f))) => .inl (cJ, n, .inr (.inl f))
  | .inl (.inr (.inr (n, f))) => .inl (cS, n, .inr (.inr (.inr (.inr (fun j => (f j).map (fun k => z + k))))))
  | .inr (ci, fs) => .inr (ci, fs.map (ri_cv z b))
def ri_cl (z b : Nat) (ls : ri_L) : List (Nat × Value) := ls.map (fun q => (q.1, ri_cv z b q.2))
def ri_sz : ri_E → Nat
  | .inl (.inl x) => x.1
  | .inl (.inr (.inl x)) => x.1
  | .inl (.inr (.inr x)) => x.1
  | .inr x => x.2.length
def ri_ns (w : ri_W) : Nat := (w.map ri_sz).sum
def ri_H (D : va_G) (cI cJ cS : ClassId) (z b : Nat) (w : ri_W) (H : Heap) : Prop := H.size = z + w.length ∧ ∀ k e, w[k]? = some e → va_at D vwCl (z + k, ri_cE z b cI cJ cS e) H
def ri_K (D : va_G) (cI cJ cS : ClassId) (U : State) : Prop := va_K D vwCl [(cI, .int), (cJ, .long), (cS, .object RX2)] U ∧ (∀ q ∈ ri_nl, va_Nw (.methodLinkNest q.1 q.2 yX4_isIn RX4) U) ∧ va_AO RX2 U
theorem ri_K.warm {D : va_G} {cI cJ cS : ClassId} {s U : State} (hW : s.WarmedH U.vm) (h : ri_K D cI cJ cS s) : ri_K D cI cJ cS U := ⟨va_K.moved hW.alike h.1, fun q hq => va_Nw.warmM hW (h.2.1 q hq), va_AO.moved hW.alike h.2.2⟩
theorem ri_K.same {D : va_G} {cI cJ cS : ClassId} {u U : State} (hv : u.vm = U.vm) (h : ri_K D cI cJ cS u) : ri_K D cI cJ cS U := ⟨va_K.moved (hv ▸ Vm.Alike.refl u.vm) h.1, fun q hq => va_Nw.same rfl hv (h.2.1 q hq), va_AO.moved (hv ▸ Vm.Alike.refl u.vm) h.2.2⟩
theorem ri_cv_cat (z b : Nat) (v : Value) : (ri_cv z b v).category = v.category := by cases v <;> rfl
theorem ri_H.set {D : va_G} {cI cJ cS : ClassId} {z b : Nat} {w : ri_W} {H H' : Heap} {a : Nat} {e : ri_E} (h : ri_H D cI cJ cS z b w H) (hz : H'.size = H.size) (ho : ∀ q, q ≠ z + a → H'[q]? = H[q]?) (hn : va_at D vwCl (z + a, ri_cE z b cI cJ cS e) H') : ri_H D cI cJ cS z b (w.set a e) H' := by
  refine ⟨by rw [hz, List.length_set]; exact h.1, fun k e' hk => ?_⟩
  by_cases hka : k = a
  · subst hka
    have hl : k < w.length := by
      have := (List.getElem?_eq_some_iff.mp hk).1
      simpa using this
    rw [List.getElem?_set_self hl] at hk
    cases hk
    exact hn
  · rw [List.getElem?_set_ne (Ne.symm hka)] at hk
    exact (h.2 k e' hk).kept (ho _ (by show z + k ≠ z + a; omega))
theorem ri_H.push {D : va_G} {cI cJ cS : ClassId} {z b : Nat} {w : ri_W} {H H' : Heap} {e : ri_E} (h : ri_H D cI cJ cS z b w H) (hz : H'.size = H.size + 1) (ho : ∀ q, q < H.size → H'[q]? = H[q]?) (hn : va_at D vwCl (z + w.length, ri_cE z b cI cJ cS e) H') : ri_H D cI cJ cS z b (w ++ [e]) H' := by
  refine ⟨by rw [hz, h.1, List.length_append]; simp; omega, fun k e' hk => ?_⟩
  rcases Nat.lt_or_ge k w.length with hl | hl
  · rw [List.getElem?_append_left hl] at hk
    exact (h.2 k e' hk).kept (ho _ (by show z + k < _; rw [h.1]; omega))
  · rw [List.getElem?_append_right hl] at hk
    have hz1 : k - w.length < 1 := by
      have := (List.getElem?_eq_some_iff.mp hk).1
      simpa using this
    have hk2 : k = w.length := by omega
    subst hk2
    rw [Nat.sub_self] at hk
    cases hk
    exact hn
theorem ri_ns_set {w : ri_W} {a : Nat} {e e' : ri_E} (h : w[a]? = some e') (hs : ri_sz e = ri_sz e') : ri_ns (w.set a e) = ri_ns w := by
  unfold ri_ns
  rw [List.map_set, hs]
  congr 1
  apply List.ext_getElem?
  intro i
  by_cases hi : i = a
  · subst hi
    have hl := (List.getElem?_eq_some_iff.mp h).1
    rw [List.getElem?_set_self (by simpa using hl), List.getElem?_map, h]
    rfl
  · rw [List.getElem?_set_ne (Ne.symm hi)]
theorem ri_ns_push (w : ri_W) (e : ri_E) : ri_ns (w ++ [e]) = ri_ns w + ri_sz e := by
  unfold ri_ns
  simp
theorem ri_gI_eq {w : ri_W} {a : Nat} {x : Nat × (Nat → Int32)} (h : ri_gI w a = some x) : w[a]? = some (ri_I x.1 x.2) := by
  unfold ri_gI at h
  split at h
  · next x' hx => cases h; exact hx
  · cases h
theorem ri_gJ_eq {w : ri_W} {a : Nat} {x : Nat × (Nat → Int64)} (h : ri_gJ w a = some x) : w[a]? = some (ri_J x.1 x.2) := by
  unfold ri_gJ at h
  split at h
  · next x' hx => cases h; exact hx
  · cases h
theorem ri_gS_eq {w : ri_W} {a : Nat} {x : Nat × (Nat → Option Nat)} (h : ri_gS w a = some x) : w[a]? = some (ri_S x.1 x.2) := by
  unfold ri_gS at h
  split at h
  · next x' hx => cases h; exact hx
  · cases h
theorem ri_gO_eq {w : ri_W} {a : Nat} {x : Nat × List Value} (h : ri_gO w a = some x) : w[a]? = some (ri_O x.1 x.2) := by
  unfold ri_gO at h
  split at h
  · next x' hx => cases h; exact hx
  · cases h
theorem ri_lv_mem : ∀ {ls : ri_L} {k : Nat} {v : Value}, ri_lv ls k = some v → (k, v) ∈ ls
  | [], _, _, h => by cases h
  | q :: t, k, v, h => by
    unfold ri_lv at h
    split at h
    · next hk => cases h; subst hk; exact List.mem_cons_self
    · exact List.mem_cons_of_mem _ (ri_lv_mem h)
theorem ri_lv_has {z b : Nat} {ls : ri_L} {k nL : Nat} {v : Value} {lm : Array Slot} (hl : lv_has lm nL (ri_cl z b ls)) (h : ri_lv ls k = some v) : lm[k]? = some (.val (ri_cv z b v)) := hl.2.2 (k, ri_cv z b v) (List.mem_map.mpr ⟨(k, v), ri_lv_mem h, rfl⟩)
theorem ri_ins_mem {i : Nat} {v : Value} {q : Nat × Value} : ∀ {l : ri_L}, q ∈ ri_ins i v l → q = (i, v) ∨ q ∈ l
  | [], h => Or.inl (List.mem_singleton.mp h)
  | p :: t, h => by
    unfold ri_ins at h
    split at h
    · rcases List.mem_cons.mp h with h | h
      · exact Or.inl h
      · exact Or.inr h
    · rcases List.mem_cons.mp h with h | h
      · exact Or.inr (h ▸ List.mem_cons_self)
      · rcases ri_ins_mem h with h | h
        · exact Or.inl h
        · exact Or.inr (List.mem_cons_of_mem _ h)
theorem ri_s1_has {z b i nL : Nat} {v : Value} {ls : ri_L} {lm : Array Slot} (h : lv_has lm nL ((i, ri_cv z b v) :: (ri_cl z b ls).filter (fun q => !(q.1 == i) && !(q.1 + 1 == i && q.2.category == 2)))) : lv_has lm nL (ri_cl z b (ri_s1 ls i v)) := by
  refine ⟨h.1, h.2.1, fun q hq => h.2.2 q ?_⟩
  obtain ⟨u, hu, rfl⟩ := List.mem_map.mp hq
  rcases ri_ins_mem hu with rfl | hu
  · exact List.mem_cons_self
  · refine List.mem_cons_of_mem _ ?_
    obtain ⟨h1, h2⟩ := List.mem_filter.mp hu
    refine List.mem_filter.mpr ⟨List.mem_map.mpr ⟨u, h1, rfl⟩, ?_⟩
    simpa only [ri_cv_cat] using h2
theorem ri_s2_has {z b i nL : Nat} {v : Value} {ls : ri_L} {lm : Array Slot} (h : lv_has lm nL ((i, ri_cv z b v) :: (ri_cl z b ls).filter (fun q => !(q.1 == i) && (!(q.1 == i + 1) && !(q.1 + 1 == i && q.2.category == 2))))) : lv_has lm nL (ri_cl z b (ri_s2 ls i v)) := by
  refine ⟨h.1, h.2.1, fun q hq => h.2.2 q ?_⟩
  obtain ⟨u, hu, rfl⟩ := List.mem_map.mp hq
  rcases ri_ins_mem hu with rfl | hu
  · exact List.mem_cons_self
  · refine List.mem_cons_of_mem _ ?_
    obtain ⟨h1, h2⟩ := List.mem_filter.mp hu
    refine List.mem_filter.mpr ⟨List.mem_map.mpr ⟨u, h1, rfl⟩, ?_⟩
    simpa only [ri_cv_cat] using h2
theorem ri_f_mem {n : Nat} {q : Nat × Value} : ∀ {l : ri_L}, q ∈ ri_f n l → q ∈ l
  | [], h => h
  | p :: t, h => by
    unfold ri_f at h
    split at h
    · rcases List.mem_cons.mp h with h | h
      · exact h ▸ List.mem_cons_self
      · exact List.mem_cons_of_mem _ (ri_f_mem h)
    · exact List.mem_cons_of_mem _ (ri_f_mem h)
theorem ri_f_has {z b n nL : Nat} {ls : ri_L} {lm : Array Slot} (h : lv_has lm nL (ri_cl z b ls)) : lv_has lm nL (ri_cl z b (ri_f n ls)) := by
  refine ⟨h.1, h.2.1, fun q hq => h.2.2 q ?_⟩
  obtain ⟨u, hu, rfl⟩ := List.mem_map.mp hq
  exact List.mem_map.mpr ⟨u, ri_f_mem hu, rfl⟩
theorem ri_sh_sum {z b : Nat} {r : List Value} (h : ri_sh r = true) : ((r.map (ri_cv z b)).map fun v => v.category).sum ≤ 8 := by
  have e : ((r.map (ri_cv z b)).map fun v => v.category) = r.map fun v => v.category := by
    rw [List.map_map]
    exact List.map_congr_left (fun v _ => ri_cv_cat z b v)
  rw [e]
  exact Nat.le_of_ble_eq_true h
/-- what holds of the machine all through a call of the method y -/
def ri_At (D : va_G) (cI cJ cS : ClassId) (z b : Nat) (sc : Nat × (Nat → Int32)) (R : Room) (p : Program) (s : State) (m : MethodId) (args : Array Value) (meth : Method) (c : Code) (y : Nat) : Prop :=
  p.tables.exec = Jvm.exec ∧ c.code = ri_bc y ∧ meth.sig.returnType = ri_rt y ∧ c.maxLocals = ri_ml y ∧ s.vm.findClass (ri_on (ri_ow y)) = some m.cls ∧ (∀ w ∈ ri_WS, w.before args s = true) ∧ meth.locks = false ∧ ((ri_nm y).name = "<init>" → meth.name = "<init>") ∧ ri_K D cI cJ cS s ∧ va_X b sc.1 sc.2 s s.heap ∧ b < z ∧ ri_rk y ≤ R.frames ∧ ri_rk y * 45 ≤ R.locals
/-- from the place cf of the method y the machine comes to a state with Q -/
def ri_G (D : va_G) (cI cJ cS : ClassId) (z b : Nat) (p : Program) (l : Launch) (e : Env) (R : Room) (s : State) (m : MethodId) (args : Array Value) (below : List Frame) (meth : Method) (c : Code) (Q : State → Prop) (y n0 s0 : Nat) (cf : ri_C) : Prop :=
  ∀ (H : Heap) (locs : List Loc) (lm : Array Slot), ri_H D cI cJ cS z b cf.2.2.2 H → (∀ q, q < z → H[q]? = s.heap[q]?) → (∀ q ∈ locs, z ≤ q.base) → lv_has lm (ri_ml y) (ri_cl z b cf.2.1) →
    W p l e R s m args below meth c H locs (cf.2.2.2.length - n0) (ri_ns cf.2.2.2 - s0) Q (F0 m cf.1 lm (cf.2.2.1.map (ri_cv z b)))
theorem ri_WS_in {w : Jvm.Cond} (h : w ∈ lw_tbl) (hg : goodWord w = true) : w ∈ ri_WS := List.mem_filter.mpr ⟨h, hg⟩
theorem ri_cls_at {ci : Nat} (h : ci < 5) : vwCl[ci]? = some (ri_cls ci) := by
  unfold ri_cls
  match ci, h with
  | 0, _ => rfl
  | 1, _ => rfl
  | 2, _ => rfl
  | 3, _ => rfl
  | 4, _ => rfl
  | k + 5, h => exact absurd h (by omega)
theorem ri_lays_in {ci : Nat} (h : ci < 5) : ∀ w ∈ u_ws (ri_cls ci).1 (ri_cls ci).2.1 (ri_cls ci).2.2, w ∈ ri_WS := fun w hw => by
  have h1 := List.all_eq_true.mp (ri_lays ci h) w hw
  simp only [Bool.and_eq_true, decide_eq_true_eq] at h1
  exact ri_WS_in h1.1 h1.2
theorem ri_ft_ok {ci : Nat} (h : ci < 5) : ∀ k, k < (ri_cls ci).2.2 → parseFieldDescriptor ((ri_cls ci).2.1 k).2.2.1 = some (ri_ft ci k) := by
  match ci, h with
  | 0, _ => exact tyX0_ok
  | 1, _ => exact tyX1_ok
  | 2, _ => exact tyX2_ok
  | 3, _ => exact tyX3_ok
  | 4, _ => exact tyX4_ok
  | k + 5, h => exact absurd h (by omega)
theorem ri_nm_ok {ci : Nat} (h : ci < 5) : ∀ a, a < (ri_cls ci).2.2 → ∀ b, b < (ri_cls ci).2.2 → a ≠ b → ((ri_cls ci).2.1 a).2.1 ≠ ((ri_cls ci).2.1 b).2.1 := by
  match ci, h with
  | 0, _ => exact nmX0
  | 1, _ => exact nmX1
  | 2, _ => exact nmX2
  | 3, _ => exact nmX3
  | 4, _ => exact nmX4
  | k + 5, h => exact absurd h (by omega)
theorem ri_flk_ok {o ix : Nat} {e : Nat × Nat × Nat × Nat × Nat} (h : ri_flk o ix = some e) : ri_fw e ∈ ri_WS ∧ e.2.2.1 < 5 ∧ e.2.2.2.1 < (ri_cls e.2.2.1).2.2 ∧ e.1 = o ∧ e.2.1 = ix := by
  have hm := List.mem_of_find?_eq_some h
  have hp := List.find?_some h
  simp only [Bool.and_eq_true, beq_iff_eq] at hp
  obtain ⟨h1, h2, h3, h4⟩ := ri_FL_ok e hm
  exact ⟨ri_WS_in (List.mem_of_getElem? h1) h2, h3, h4, hp.1, hp.2⟩
theorem ri_clk_ok {o ix : Nat} {e : Nat × Nat × Nat × Nat × Nat × Nat} (h : ri_clk o ix = some e) : (∀ w ∈ ri_cw e, w ∈ ri_WS) ∧ e.2.2.1 < 5 ∧ e.1 = o ∧ e.2.1 = ix := by
  have hm := List.mem_of_find?_eq_some h
  have hp := List.find?_some h
  simp only [Bool.and_eq_true, beq_iff_eq] at hp
  obtain ⟨h1, h2, h3⟩ := ri_CL_ok e hm
  refine ⟨fun w hw => ri_WS_in ?_ (List.all_eq_true.mp h2 w hw), h3, hp.1, hp.2⟩
  have hw' : some w ∈ (ri_cw e).map some := List.mem_map.mpr ⟨w, hw, rfl⟩
  rw [← h1] at hw'
  simp only [List.mem_cons, List.not_mem_nil, or_false] at hw'
  rcases hw' with hw' | hw' | hw' <;> exact List.mem_of_getElem? hw'.symm
theorem ri_llk_ok {o ix : Nat} {e : Nat × Nat × Int × Nat} (h : ri_llk o ix = some e) : ri_lw e ∈ ri_WS ∧ e.1 = o ∧ e.2.1 = ix := by
  have hm := List.mem_of_find?_eq_some h
  have hp := List.find?_some h
  simp only [Bool.and_eq_true, beq_iff_eq] at hp
  obtain ⟨h1, h2⟩ := ri_LL_ok e hm
  exact ⟨ri_WS_in (List.mem_of_getElem? h1) h2, hp.1, hp.2⟩
theorem ri_dlk_ok {o ix : Nat} {e : Nat × Nat × Int × Nat} (h : ri_dlk o ix = some e) : ri_dw e ∈ ri_WS ∧ e.1 = o ∧ e.2.1 = ix := by
  have hm := List.mem_of_find?_eq_some h
  have hp := List.find?_some h
  simp only [Bool.and_eq_true, beq_iff_eq] at hp
  obtain ⟨h1, h2⟩ := ri_DL_ok e hm
  exact ⟨ri_WS_in (List.mem_of_getElem? h1) h2, hp.1, hp.2⟩
theorem ri_mlk_ok {o ix : Nat} {e : Nat × Nat × Nat × Nat × List Nat} (h : ri_mlk o ix = some e) : e ∈ ri_ML ∧ (∀ w ∈ ri_mw e, w ∈ lw_tbl ∧ (goodWord w = true ∨ e.2.2.1 = 2)) ∧ e.1 = o ∧ e.2.1 = ix := by
  have hm := List.mem_of_find?_eq_some h
  have hp := List.find?_some h
  simp only [Bool.and_eq_true, beq_iff_eq] at hp
  have h1 := ri_ML_ok e hm
  have h2 := ri_ML_good e hm
  refine ⟨hm, fun w hw => ⟨?_, ?_⟩, hp.1, hp.2⟩
  · have hw' : some w ∈ (ri_mw e).map some := List.mem_map.mpr ⟨w, hw, rfl⟩
    rw [← h1] at hw'
    obtain ⟨i, -, hi⟩ := List.mem_map.mp hw'
    exact List.mem_of_getElem? hi
  · have := List.all_eq_true.mp h2 w hw
    simpa using this

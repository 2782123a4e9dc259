theorem ri_lg_cons (v : Value) (vs : List Value) : (lg_sl (v :: vs)).length = (if v.category = 2 then 2 else 1) + (lg_sl vs).length := by
  unfold lg_sl
  rw [List.flatMap_cons, List.length_append]
  split <;> rfl
theorem ri_lg_len (z b : Nat) : ∀ as : List Value, (lg_sl (as.map (ri_cv z b))).length = (lg_sl as).length
  | [] => rfl
  | v :: vs => by rw [List.map_cons, ri_lg_cons, ri_lg_cons, ri_lg_len z b vs, ri_cv_cat]
theorem ri_args_cl (z b : Nat) : ∀ (as : List Value) (i : Nat), lv_args i (as.map (ri_cv z b)) = ri_cl z b (lv_args i as)
  | [], _ => rfl
  | v :: vs, i => by
    show (i, ri_cv z b v) :: lv_args (if (ri_cv z b v).category = 2 then i + 2 else i + 1) (vs.map (ri_cv z b)) = (i, ri_cv z b v) :: ri_cl z b (lv_args (if v.category = 2 then i + 2 else i + 1) vs)
    rw [ri_args_cl z b vs, ri_cv_cat]
def ri_ws (y : Nat) : List Jvm.Cond := .code (ri_nm y) (ri_bc y) (ri_ml y) (ri_rt y) :: ri_WS
def ri_rm (y mc ms : Nat) : Room := { frames := ri_rk y, cells := mc, slots := ms, locals := ri_rk y * 45 }
def ri_Pc (D : va_G) (cI cJ cS : ClassId) (z b : Nat) (sc : Nat × (Nat → Int32)) (as : List Value) (w : ri_W) : Array Value → State → Prop := va_Pc (as.map (ri_cv z b)) (fun U => ri_H D cI cJ cS z b w U.heap ∧ ri_K D cI cJ cS U ∧ va_X b sc.1 sc.2 U U.heap ∧ b < z)
def ri_Qc (D : va_G) (cI cJ cS : ClassId) (z b : Nat) (x : ri_X) : Array Value → State → Outcome → State → Prop := fun _ st o t => o = .returned (x.1.map (ri_cv z b)) ∧ ri_H D cI cJ cS z b x.2 t.heap ∧ ∀ q, q < z → t.heap[q]? = st.heap[q]?
theorem ri_M_len : ri_M.length = 180 := by decide +kernel
theorem ri_M_at {y : Nat} (h : y < 180) : plainName (ri_nm y).cls = true ∧ ((ri_nm y).cls ≠ "java/lang/invoke/MethodHandle" ∧ (ri_nm y).cls ≠ "java/lang/invoke/VarHandle" ∧ (parseMethodDescriptor (ri_nm y).desc).map (fun d => d.parameters.length) = some (ri_na y)) ∧ (ri_nm y).cls = ri_on (ri_ow y) ∧ ri_ml y ≤ 15 := by
  refine ri_M_ok (ri_row y) ?_
  unfold ri_row
  rw [List.getD_eq_getElem?_getD, List.getElem?_eq_getElem (by rw [ri_M_len]; exact h)]
  exact List.getElem_mem _
theorem ri_good {w : Jvm.Cond} (h : w ∈ lw_tbl) (hg : goodWord w = true) : w ∈ ri_WS ∧ ((w.onTables && w.keeps) = true ∨ ∃ ty, w = .arrayClass ty) := ⟨ri_WS_in h hg, good_of_word hg⟩
theorem ri_ws_good {y : Nat} (h : y < 179) : GoodIn ri_WS (ri_ws y) := by
  intro w hw
  rcases List.mem_cons.mp hw with rfl | hw
  · exact ri_good (ri_codes y h) rfl
  · obtain ⟨h1, h2⟩ := List.mem_filter.mp hw
    exact ri_good h1 h2
theorem ri_cls_on {ci : Nat} (h : ci < 6) : (ri_cls ci).1 = ri_on ci := by
  match ci, h with
  | 0, _ => rfl
  | 1, _ => rfl
  | 2, _ => rfl
  | 3, _ => rfl
  | 4, _ => rfl
  | 5, _ => rfl
  | k + 6, h => exact absurd h (by omega)
theorem ri_Pc_blind {D : va_G} {cI cJ cS : ClassId} {z b : Nat} {sc : Nat × (Nat → Int32)} {as : List Value} {w : ri_W} : FrameBlind (ri_Pc D cI cJ cS z b sc as w) := by
  intro a U g mk q
  obtain ⟨q1, q2, q3, q4, q5⟩ := q
  exact ⟨q1, q2, ri_K.same (u := U) (U := U.calling g mk a) rfl q3, va_X.moved (u := U) (U := U.calling g mk a) (Vm.Alike.refl U.vm) q4, q5⟩
section
variable {D : va_G} {cI cJ cS : ClassId} {z b : Nat} {sc : Nat × (Nat → Int32)} {p : Program} {l : Launch} {e : Env} {R : Room} {s : State} {m : MethodId} {args : Array Value} {below : List Frame} {meth : Method} {c : Code} {Q : State → Prop} {y n0 s0 pc : Nat} {ls : ri_L} {st : List Value} {w : ri_W} {c' : ri_C}
theorem ri_after {H : Heap} {locs : List Loc} {cells slots mc ms : Nat} {g : JFrame} {rest : List Value} {Qa : State → Outcome → State → Prop} (hr : va_Run p l e R s m args below meth c H locs cells slots mc ms g rest Qa (fun q => z ≤ q))
    (kk : ∀ (v : Option Value) (st₀ t : State) (L : List Loc), st₀.heap = H → Qa st₀ (.returned v) t → (∀ q ∈ L, z ≤ q.base) → W p l e R s m args below meth c t.heap (locs ++ L) (cells + mc) (slots + ms) Q { g with pc := g.pc + 3, stack := v.toList ++ rest }) : W p l e R s m args below meth c H locs cells slots Q g := by
  intro T hT X
  obtain ⟨v, st₀, t, T', L, h0, X', hL, e1, e2, hq, hg⟩ := hr T hT X
  obtain ⟨t2, a1, b1⟩ := kk v st₀ t L h0 hq hL T' e1 X'
  exact ⟨t2, hg t2 a1, b1⟩
/-- the end of a method that comes to x -/
def ri_Fin (D : va_G) (cI cJ cS : ClassId) (z b : Nat) (p : Program) (l : Launch) (e : Env) (R : Room) (s : State) (m : MethodId) (args : Array Value) (below : List Frame) (meth : Method) (c : Code) (Q : State → Prop) (y n0 s0 : Nat) (x : ri_X) : Prop :=
  ∀ (H : Heap) (locs : List Loc) (lm : Array Slot) (pc : Nat) (i : Instr) (st : List Value), decode (ri_bc y) pc = .ok (i, 1) →
    ((i = .ireturn ∧ ∃ v, st = [.int v] ∧ x.1 = some (.int v) ∧ ri_okr (ri_rt y) v = true) ∨ (i = .areturn ∧ ∃ a nm, st = [.ref a] ∧ x.1 = some (.ref a) ∧ ri_rt y = some (.object nm)) ∨ (i = .lreturn ∧ ∃ v, st = [.long v] ∧ x.1 = some (.long v) ∧ ri_rt y = some .long) ∨ (i = .return_ ∧ st = [] ∧ x.1 = none ∧ ri_rt y = none)) →
    ri_H D cI cJ cS z b x.2 H → (∀ q, q < z → H[q]? = s.heap[q]?) → (∀ q ∈ locs, z ≤ q.base) → W p l e R s m args below meth c H locs (x.2.length - n0) (ri_ns x.2 - s0) Q (F0 m pc lm (st.map (ri_cv z b)))
/-- a method's end -/
theorem ri_Fin_met (C : ri_At D cI cJ cS z b sc R p s m args meth c y) {x : ri_X} : ri_Fin D cI cJ cS z b p l e R s m args below meth c (MQ below (ri_Qc D cI cJ cS z b x) args s (x.2.length - n0) (ri_ns x.2 - s0) (fun q => z ≤ q)) y n0 s0 x := by
  obtain ⟨hx, hb, hr, hml, hown, hts, hlocks, hini, hK, hX, hbz, hfr, hlo⟩ := C
  intro H locs lm pc i st hd hi h1 h2 h3
  rcases hi with ⟨rfl, v, rfl, hv, hk⟩ | ⟨rfl, a, nm, rfl, hv, hk⟩ | ⟨rfl, v, rfl, hv, hk⟩ | ⟨rfl, rfl, hv, hk⟩
  · have hq : ∀ t : State, t.heap = H → s.WarmedH t.vm → ri_Qc D cI cJ cS z b x args s (.returned (some (.int v))) t := fun t ht _ => ⟨by rw [hv]; rfl, by rw [ht]; exact h1, fun q hq => by rw [ht]; exact h2 q hq⟩
    unfold ri_okr at hk
    split at hk
    · rename_i hrt
      exact W.iret hx hb (by rw [hr, hrt]) hq h3 hd hlocks
    · rename_i hrt
      refine W.zret hx hb (by rw [hr, hrt]) ?_ hq h3 hd hlocks
      simp only [Bool.or_eq_true, beq_iff_eq] at hk
      rcases hk with hk | hk <;> subst hk <;> rfl
    · cases hk
  · exact W.aret (v := .ref (z + a)) hx hb (by rw [hr, hk]) (Or.inl ⟨nm, rfl⟩) (Or.inr ⟨_, rfl⟩) (fun t ht _ => ⟨by rw [hv]; rfl, by rw [ht]; exact h1, fun q hq => by rw [ht]; exact h2 q hq⟩) h3 hd hlocks
  · exact W.lret (v := v) hx hb (by rw [hr, hk]) (fun t ht _ => ⟨by rw [hv]; rfl, by rw [ht]; exact h1, fun q hq => by rw [ht]; exact h2 q hq⟩) h3 hd hlocks
  · exact W.vret hx hb (by rw [hr, hk]) (fun t ht _ => ⟨by rw [hv]; rfl, by rw [ht]; exact h1, fun q hq => by rw [ht]; exact h2 q hq⟩) h3 hd hlocks
/-- a method's contract, out of its run -/
theorem ri_met {zz : Nat} {as : List Value} {x1 : ri_X} (hz : zz < 179) (hlen : (lg_sl as).length ≤ ri_ml zz)
    (ih : ∀ {p : Program} {e : Env} {R : Room} {s : State} {m : MethodId} {args : Array Value} {below : List Frame} {meth : Method} {c : Code} {Q : State → Prop} {n0 s0 : Nat}, ri_At D cI cJ cS z b sc R p s m args meth c zz → n0 ≤ w.length → s0 ≤ ri_ns w → x1.2.length - n0 ≤ R.cells → ri_ns x1.2 - s0 ≤ R.slots → ri_Fin D cI cJ cS z b p l e R s m args below meth c Q zz n0 s0 x1 → ri_G D cI cJ cS z b p l e R s m args below meth c Q zz n0 s0 (0, lv_args 0 as, [], w)) :
    Met l (ri_nm zz) (ri_ws zz) (ri_rm zz (x1.2.length - w.length) (ri_ns x1.2 - ri_ns w)) (ri_Pc D cI cJ cS z b sc as w) (ri_Qc D cI cJ cS z b x1) (x1.2.length - w.length) (ri_ns x1.2 - ri_ns w) (fun q => z ≤ q) := by
  obtain ⟨m1, m2, m3, m4⟩ := ri_M_at (y := zz) (by omega)
  refine Met.ofW (cc := ri_bc zz) (maxL := ri_ml zz) (ret := ri_rt zz) m1 rfl ?_
  intro p e s m args below meth c s₁ B hml hv
  obtain ⟨rfl, hH, hK, hX, hbz⟩ := hv
  have hts := atoms_spec (ws := ri_ws zz) B.pre
  have hlocks := B.notSynchronized
  have C : ri_At D cI cJ cS z b sc (ri_rm zz (x1.2.length - w.length) (ri_ns x1.2 - ri_ns w)) p s m (as.map (ri_cv z b)).toArray meth c zz :=
    ⟨B.exec, B.bytes, B.returns, hml, by rw [← m3]; exact findClass_of_methodNamed B.named, fun w hw => hts w (List.mem_cons_of_mem _ hw), hlocks, fun hq => by rw [(name_of_methodNamed B.named B.method).1]; exact hq, hK, hX, hbz, Nat.le_refl _, Nat.le_refl _⟩
  have hG := ih (e := e) (below := below) (Q := MQ below (ri_Qc D cI cJ cS z b x1) (as.map (ri_cv z b)).toArray s (x1.2.length - w.length) (ri_ns x1.2 - ri_ns w) (fun q => z ≤ q)) (n0 := w.length) (s0 := ri_ns w) C (Nat.le_refl _) (Nat.le_refl _) (Nat.le_refl _) (Nat.le_refl _) (ri_Fin_met C)
  rw [lg_entry_eq]
  have hl := lv_entry (as.map (ri_cv z b)) (n := ri_ml zz) (by rw [ri_lg_len]; exact hlen)
  rw [ri_args_cl] at hl
  have hk := hG s.heap [] _ hH (fun _ _ => rfl) (fun _ h => absurd h List.not_mem_nil) hl
  dsimp only at hk
  rw [Nat.sub_self, Nat.sub_self] at hk
  exact hk
end

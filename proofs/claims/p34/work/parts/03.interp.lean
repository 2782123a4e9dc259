def ri_TN : List (Nat × Nat × Nat) := [(8, 12, 8), (10, 4, 3), (11, 2, 2), (21, 4, 4), (28, 4, 4), (29, 4, 4), (32, 3, 6), (35, 2, 4), (39, 4, 3), (40, 4, 4), (41, 4, 4), (42, 5, 5), (48, 3, 5), (49, 14, 4), (50, 4, 4), (51, 5, 5), (53, 52, 2), (66, 32, 4), (71, 22, 5), (72, 36, 5), (73, 26, 4), (74, 23, 4), (90, 6, 4), (90, 33, 4), (90, 45, 5), (90, 81, 4), (90, 124, 4), (90, 136, 5), (90, 167, 5), (90, 208, 4), (95, 7, 5), (95, 27, 7), (95, 117, 6), (96, 47, 6), (97, 9, 5), (97, 60, 5), (100, 49, 4)]
/-! THE SYSTEM RUN ON A WORLD OF NUMBERED CELLS. A cell is an array of ints, of longs, of references, or an object; '.ref k' is the cell k, '.retAddr _' stands for the law's script. -/
abbrev ri_E : Type := ((Nat × (Nat → Int32)) ⊕ ((Nat × (Nat → Int64)) ⊕ (Nat × (Nat → Option Nat)))) ⊕ (Nat × List Value)
abbrev ri_W : Type := List ri_E
abbrev ri_L : Type := List (Nat × Value)
abbrev ri_C : Type := Nat × ri_L × List Value × ri_W
abbrev ri_X : Type := Option Value × ri_W
abbrev ri_R : Type := Option (ri_C ⊕ (ri_X ⊕ (Nat × List Value × ri_C)))
abbrev ri_I (n : Nat) (f : Nat → Int32) : ri_E := .inl (.inl (n, f))
abbrev ri_J (n : Nat) (f : Nat → Int64) : ri_E := .inl (.inr (.inl (n, f)))
abbrev ri_S (n : Nat) (f : Nat → Option Nat) : ri_E := .inl (.inr (.inr (n, f)))
abbrev ri_O (ci : Nat) (fs : List Value) : ri_E := .inr (ci, fs)
def ri_nx (pc : Nat) (ls : ri_L) (st : List Value) (w : ri_W) : ri_R := some (.inl (pc, ls, st, w))
def ri_ret (v : Option Value) (w : ri_W) : ri_R := some (.inr (.inl (v, w)))
def ri_call (z : Nat) (as : List Value) (pc : Nat) (ls : ri_L) (st : List Value) (w : ri_W) : ri_R := some (.inr (.inr (z, as, (pc, ls, st, w))))
def ri_gI (w : ri_W) (a : Nat) : Option (Nat × (Nat → Int32)) := match w[a]? with
  | some (.inl (.inl x)) => some x
  | _ => none
def ri_gJ (w : ri_W) (a : Nat) : Option (Nat × (Nat → Int64)) := match w[a]? with
  | some (.inl (.inr (.inl x))) => some x
  | _ => none
def ri_gS (w : ri_W) (a : Nat) : Option (Nat × (Nat → Option Nat)) := match w[a]? with
  | some (.inl (.inr (.inr x))) => some x
  | _ => none
def ri_gO (w : ri_W) (a : Nat) : Option (Nat × List Value) := match w[a]? with
  | some (.inr x) => some x
  | _ => none
def ri_gN (w : ri_W) (a : Nat) : Option Nat := match w[a]? with
  | some (.inl (.inl x)) => some x.1
  | some (.inl (.inr (.inl x))) => some x.1
  | some (.inl (.inr (.inr x))) => some x.1
  | _ => none
def ri_gf (w : ri_W) (a ci k : Nat) : Option Value := match ri_gO w a with
  | some (c, fs) => if c = ci then fs[k]? else none
  | none => none
def ri_pf (w : ri_W) (a ci k : Nat) (v : Value) : Option ri_W := match ri_gO w a with
  | some (c, fs) => if c = ci ∧ k < fs.length then some (w.set a (ri_O c (fs.set k v))) else none
  | none => none
def ri_in (i : Int32) (n : Nat) : Bool := decide (¬ (i < 0 ∨ n ≤ i.toNatClampNeg))
def ri_tyok : FieldType → Value → Bool
  | .int, .int _ => true
  | .boolean, .int x => x == 0 || x == 1
  | .object _, .ref _ => true
  | .array _, .ref _ => true
  | _, _ => false
def ri_ft (ci k : Nat) : FieldType := match ci with
  | 0 => tyX0 k
  | 1 => tyX1 k
  | 2 => tyX2 k
  | 3 => tyX3 k
  | _ => tyX4 k
/-- may the method y put v into the field k of class ci? -/
def ri_pok (y ci k : Nat) (v : Value) : Bool := ri_tyok (ri_ft ci k) v && (!((ri_cls ci).2.1 k).2.2.2 || (decide ((ri_nm y).name = "<init>") && decide (((ri_cls ci).2.1 k).1 = ri_on (ri_ow y))))
def ri_df (ci : Nat) : List Value := (List.range (ri_cls ci).2.2).map (fun k => defaultValue (ri_ft ci k))
def ri_flk (o ix : Nat) : Option (Nat × Nat × Nat × Nat × Nat) := ri_FL.find? (fun e => e.1 == o && e.2.1 == ix)
def ri_mlk (o ix : Nat) : Option (Nat × Nat × Nat × Nat × List Nat) := ri_ML.find? (fun e => e.1 == o && e.2.1 == ix)
def ri_clk (o ix : Nat) : Option (Nat × Nat × Nat × Nat × Nat × Nat) := ri_CL.find? (fun e => e.1 == o && e.2.1 == ix)
def ri_llk (o ix : Nat) : Option (Nat × Nat × Int × Nat) := ri_LL.find? (fun e => e.1 == o && e.2.1 == ix)
def ri_dlk (o ix : Nat) : Option (Nat × Nat × Int × Nat) := ri_DL.find? (fun e => e.1 == o && e.2.1 == ix)
def ri_lv : ri_L → Nat → Option Value
  | [], _ => none
  | q :: t, k => if q.1 = k then some q.2 else ri_lv t k
def ri_ins (i : Nat) (v : Value) : ri_L → ri_L
  | [] => [(i, v)]
  | q :: t => if i < q.1 then (i, v) :: q :: t else q :: ri_ins i v t
def ri_k1 (i : Nat) (ls : ri_L) : ri_L := ls.filter (fun q => !(q.1 == i) && !(q.1 + 1 == i && q.2.category == 2))
def ri_k2 (i : Nat) (ls : ri_L) : ri_L := ls.filter (fun q => !(q.1 == i) && (!(q.1 == i + 1) && !(q.1 + 1 == i && q.2.category == 2)))
def ri_s1 (ls : ri_L) (i : Nat) (v : Value) : ri_L := ri_ins i v (ri_k1 i ls)
def ri_s2 (ls : ri_L) (i : Nat) (v : Value) : ri_L := ri_ins i v (ri_k2 i ls)
/-- what is kept of the locals at a jump back: those below n -/
def ri_f (n : Nat) : ri_L → ri_L
  | [] => []
  | q :: t => if q.1 < n then q :: ri_f n t else ri_f n t
def ri_tn (y pc : Nat) : Nat := match ri_TN.find? (fun e => e.1 == y && e.2.1 == pc) with
  | some e => e.2.2
  | none => 100
/-- may these stand below on the stack at a call? -/
def ri_sh (r : List Value) : Bool := Nat.ble (r.map fun v => v.category).sum 8
def ri_xla (pc : Nat) (o : Option Value) (ls : ri_L) (st : List Value) (w : ri_W) : ri_R := match o with
  | some (.ref x) => ri_nx pc ls (.ref x :: st) w
  | some (.retAddr x) => ri_nx pc ls (.retAddr x :: st) w
  | _ => none
def ri_xli (pc : Nat) (o : Option Value) (ls : ri_L) (st : List Value) (w : ri_W) : ri_R := match o with
  | some (.int x) => ri_nx pc ls (.int x :: st) w
  | _ => none
def ri_xll (pc : Nat) (o : Option Value) (ls : ri_L) (st : List Value) (w : ri_W) : ri_R := match o with
  | some (.long x) => ri_nx pc ls (.long x :: st) w
  | _ => none
def ri_xsi (y pc k : Nat) (ls : ri_L) (st : List Value) (w : ri_W) : ri_R := match st with
  | .int x :: r => if k < ri_ml y then ri_nx pc (ri_s1 ls k (.int x)) r w else none
  | _ => none
def ri_xsa (y pc k : Nat) (ls : ri_L) (st : List Value) (w : ri_W) : ri_R := match st with
  | .ref x :: r => if k < ri_ml y then ri_nx pc (ri_s1 ls k (.ref x)) r w else none
  | _ => none
def ri_xsl (y pc k : Nat) (ls : ri_L) (st : List Value) (w : ri_W) : ri_R := match st with
  | .long x :: r => if k + 1 < ri_ml y then ri_nx pc (ri_s2 ls k (.long x)) r w else none
  | _ => none
def ri_xinc (y pc k : Nat) (n : Int) (ls : ri_L) (st : List Value) (w : ri_W) : ri_R := match ri_lv ls k with
  | some (.int x) => if k < ri_ml y then ri_nx (pc + 3) (ri_s1 ls k (.int (x + Int32.ofInt n))) st w else none
  | _ => none
def ri_xdup (pc : Nat) (ls : ri_L) (st : List Value) (w : ri_W) : ri_R := match st with
  | v :: r => if v.category = 1 then ri_nx (pc + 1) ls (v :: v :: r) w else none
  | _ => none
def ri_xdup2 (pc : Nat) (ls : ri_L) (st : List Value) (w : ri_W) : ri_R := match st with
  | a :: b :: r => if a.category = 1 ∧ b.category = 1 then ri_nx (pc + 1) ls (a :: b :: a :: b :: r) w else none
  | _ => none
def ri_x2 (f : Int32 → Int32 → Int32) (pc : Nat) (ls : ri_L) (st : List Value) (w : ri_W) : ri_R := match st with
  | .int y :: .int x :: r => ri_nx (pc + 1) ls (.int (f x y) :: r) w
  | _ => none
def ri_xd (f : Int32 → Int32 → Int32) (pc : Nat) (ls : ri_L) (st : List Value) (w : ri_W) : ri_R := match st with
  | .int y :: .int x :: r => if y = 0 then none else ri_nx (pc + 1) ls (.int (f x y) :: r) w
  | _ => none
def ri_x2l (f : Int64 → Int64 → Int64) (pc : Nat) (ls : ri_L) (st : List Value) (w : ri_W) : ri_R := match st with
  | .long y :: .long x :: r => ri_nx (pc + 1) ls (.long (f x y) :: r) w
  | _ => none
def ri_xsh (f : Int64 → Int32 → Int64) (pc : Nat) (ls : ri_L) (st : List Value) (w : ri_W) : ri_R := match st with
  | .int y :: .long x :: r => ri_nx (pc + 1) ls (.long (f x y) :: r) w
  | _ => none
def ri_xcm (pc : Nat) (ls : ri_L) (st : List Value) (w : ri_W) : ri_R := match st with
  | .long y :: .long x :: r => ri_nx (pc + 1) ls (.int (lg_cmp x y) :: r) w
  | _ => none
def ri_xi2l (pc : Nat) (ls : ri_L) (st : List Value) (w : ri_W) : ri_R := match st with
  | .int x :: r => ri_nx (pc + 1) ls (.long x.toInt64 :: r) w
  | _ => none
def ri_xpop (pc : Nat) (ls : ri_L) (st : List Value) (w : ri_W) : ri_R := match st with
  | .int _ :: r => ri_nx (pc + 1) ls r w
  | _ => none
def ri_xl2i (pc : Nat) (ls : ri_L) (st : List Value) (w : ri_W) : ri_R := match st with
  | .long x :: r => ri_nx (pc + 1) ls (.int x.toInt32 :: r) w
  | _ => none
def ri_xi2c (pc : Nat) (ls : ri_L) (st : List Value) (w : ri_W) : ri_R := match st with
  | .int x :: r => ri_nx (pc + 1) ls (.int (x.toUInt32 % 65536).toInt32 :: r) w
  | _ => none
def ri_cd : ClassFile.Cond → Int32 → Int32 → Bool
  | .eq, x, y => decide (x = y)
  | .ne, x, y => decide (¬ x = y)
  | .lt, x, y => decide (x < y)
  | .ge, x, y => decide (y ≤ x)
  | .gt, x, y => decide (y < x)
  | .le, x, y => decide (x ≤ y)
def ri_jmp (y pc : Nat) (off : Int) (ls : ri_L) (st : List Value) (w : ri_W) : ri_R :=
  if 0 ≤ (pc : Int) + off then ri_nx ((pc : Int) + off).toNat (if off < 0 then ri_f (ri_tn y ((pc : Int) + off).toNat) ls else ls) st w else none
def ri_xif (y pc : Nat) (c : ClassFile.Cond) (off : Int) (ls : ri_L) (st : List Value) (w : ri_W) : ri_R := match st with
  | .int x :: r => if 0 ≤ (pc : Int) + off then (if ri_cd c x 0 = true then ri_jmp y pc off ls r w else ri_nx (pc + 3) ls r w) else none
  | _ => none
def ri_xic (y pc : Nat) (c : ClassFile.Cond) (off : Int) (ls : ri_L) (st : List Value) (w : ri_W) : ri_R := match st with
  | .int b :: .int a :: r => if 0 ≤ (pc : Int) + off then (if ri_cd c a b = true then ri_jmp y pc off ls r w else ri_nx (pc + 3) ls r w) else none
  | _ => none
def ri_xnn (y pc : Nat) (off : Int) (ls : ri_L) (st : List Value) (w : ri_W) : ri_R := match st with
  | .ref _ :: r => ri_jmp y pc off ls r w
  | _ => none
def ri_xnu (pc : Nat) (ls : ri_L) (st : List Value) (w : ri_W) : ri_R := match st with
  | .ref _ :: r => ri_nx (pc + 3) ls r w
  | _ => none
def ri_xts (y pc : Nat) (d lo hi : Int) (os : Array Int) (ls : ri_L) (st : List Value) (w : ri_W) : ri_R := match st with
  | .int x :: r => if x.toInt < lo ∨ hi < x.toInt then ri_jmp y pc d ls r w else (match os[(x.toInt - lo).toNat]? with
    | some off => ri_jmp y pc off ls r w
    | none => none)
  | _ => none
def ri_xlo (y pc : Nat) (d : Int) (ps : Array (Int × Int)) (ls : ri_L) (st : List Value) (w : ri_W) : ri_R := match st with
  | .int x :: r => if (ps.toList.zip (ps.toList.drop 1)).all (fun (a, next) => a.1 < next.1) = true then ri_jmp y pc (Op.lookupswitch.offset ps.toList d x.toInt) ls r w else none
  | _ => none
def ri_xgf (pc : Nat) (e : Option (Nat × Nat × Nat × Nat × Nat)) (ls : ri_L) (st : List Value) (w : ri_W) : ri_R := match st, e with
  | .ref a :: r, some e => (match ri_gf w a e.2.2.1 e.2.2.2.1 with
    | some v => ri_nx (pc + 3) ls (v :: r) w
    | none => none)
  | _, _ => none
def ri_xpf (y pc : Nat) (e : Option (Nat × Nat × Nat × Nat × Nat)) (ls : ri_L) (st : List Value) (w : ri_W) : ri_R := match st, e with
  | v :: .ref a :: r, some e => if ri_pok y e.2.2.1 e.2.2.2.1 v = true then (match ri_pf w a e.2.2.1 e.2.2.2.1 v with
    | some w' => ri_nx (pc + 3) ls r w'
    | none => none) else none
  | _, _ => none
def ri_xia (sc : Nat × (Nat → Int32)) (pc : Nat) (ls : ri_L) (st : List Value) (w : ri_W) : ri_R := match st with
  | .int i :: .ref a :: r => (match ri_gI w a with
    | some (n, f) => if ri_in i n = true then ri_nx (pc + 1) ls (.int (f i.toNatClampNeg) :: r) w else none
    | none => none)
  | .int i :: .retAddr _ :: r => if ri_in i sc.1 = true then ri_nx (pc + 1) ls (.int (sc.2 i.toNatClampNeg) :: r) w else none
  | _ => none
def ri_xja (pc : Nat) (ls : ri_L) (st : List Value) (w : ri_W) : ri_R := match st with
  | .int i :: .ref a :: r => (match ri_gJ w a with
    | some (n, f) => if ri_in i n = true then ri_nx (pc + 1) ls (.long (f i.toNatClampNeg) :: r) w else none
    | none => none)
  | _ => none
def ri_xaa (pc : Nat) (ls : ri_L) (st : List Value) (w : ri_W) : ri_R := match st with
  | .int i :: .ref a :: r => (match ri_gS w a with
    | some (n, f) => if ri_in i n = true then ri_nx (pc + 1) ls (va_rf (f i.toNatClampNeg) :: r) w else none
    | none => none)
  | _ => none
def ri_xis (pc : Nat) (ls : ri_L) (st : List Value) (w : ri_W) : ri_R := match st with
  | .int x :: .int i :: .ref a :: r => (match ri_gI w a with
    | some (n, f) => if ri_in i n = true then ri_nx (pc + 1) ls r (w.set a (ri_I n (upd f i.toNatClampNeg x))) else none
    | none => none)
  | _ => none
def ri_xjs (pc : Nat) (ls : ri_L) (st : List Value) (w : ri_W) : ri_R := match st with
  | .long x :: .int i :: .ref a :: r => (match ri_gJ w a with
    | some (n, f) => if ri_in i n = true then ri_nx (pc + 1) ls r (w.set a (ri_J n (vp_updL f i.toNatClampNeg x))) else none
    | none => none)
  | _ => none
def ri_xas (pc : Nat) (ls : ri_L) (st : List Value) (w : ri_W) : ri_R := match st with
  | .ref v :: .int i :: .ref a :: r => (match ri_gS w a, ri_gO w v with
    | some (n, f), some (c, _) => if ri_in i n = true ∧ c = 2 then ri_nx (pc + 1) ls r (w.set a (ri_S n (va_up f i.toNatClampNeg (some v)))) else none
    | _, _ => none)
  | _ => none
def ri_xal (sc : Nat × (Nat → Int32)) (pc : Nat) (ls : ri_L) (st : List Value) (w : ri_W) : ri_R := match st with
  | .ref a :: r => (match ri_gN w a with
    | some n => ri_nx (pc + 1) ls (.int (Int32.ofNat n) :: r) w
    | none => none)
  | .retAddr _ :: r => ri_nx (pc + 1) ls (.int (Int32.ofNat sc.1) :: r) w
  | _ => none
def ri_xnew (pc : Nat) (e : Option (Nat × Nat × Nat × Nat × Nat × Nat)) (ls : ri_L) (st : List Value) (w : ri_W) : ri_R := match e with
  | some e => ri_nx (pc + 3) ls (.ref w.length :: st) (w ++ [ri_O e.2.2.1 (ri_df e.2.2.1)])
  | none => none
def ri_xna (at_ : ArrayType) (pc : Nat) (ls : ri_L) (st : List Value) (w : ri_W) : ri_R := match st, at_ with
  | .int n :: r, .int => if ¬ n < 0 ∧ n.toNatClampNeg ≤ 100000 then ri_nx (pc + 2) ls (.ref w.length :: r) (w ++ [ri_I n.toNatClampNeg (fun _ => 0)]) else none
  | .int n :: r, .long => if ¬ n < 0 ∧ n.toNatClampNeg ≤ 100000 then ri_nx (pc + 2) ls (.ref w.length :: r) (w ++ [ri_J n.toNatClampNeg (fun _ => 0)]) else none
  | _, _ => none
def ri_xan (y ix pc : Nat) (ls : ri_L) (st : List Value) (w : ri_W) : ri_R := match st with
  | .int n :: r => if ri_ow y = 4 ∧ ix = 7 ∧ ¬ n < 0 ∧ n.toNatClampNeg ≤ 100000 then ri_nx (pc + 3) ls (.ref w.length :: r) (w ++ [ri_S n.toNatClampNeg (fun _ => none)]) else none
  | _ => none
def ri_xld (pc : Nat) (e : Option (Nat × Nat × Int × Nat)) (ls : ri_L) (st : List Value) (w : ri_W) : ri_R := match e with
  | some e => ri_nx (pc + 3) ls (.long (Int64.ofInt e.2.2.1) :: st) w
  | none => none
def ri_xldi (pc : Nat) (e : Option (Nat × Nat × Int × Nat)) (ls : ri_L) (st : List Value) (w : ri_W) : ri_R := match e with
  | some e => ri_nx (pc + 2) ls (.int (Int32.ofInt e.2.2.1) :: st) w
  | none => none
def ri_xiv (pc : Nat) (e : Option (Nat × Nat × Nat × Nat × List Nat)) (ls : ri_L) (st : List Value) (w : ri_W) : ri_R := match e with
  | some e => if e.2.2.1 = 0 then (match st.drop (ri_na e.2.2.2.1) with
    | .ref a :: r => if ri_sh r = true ∧ (ri_gO w a).map (fun o => o.1) = some (ri_ow e.2.2.2.1) ∧ ri_ow e.2.2.2.1 < 5 then ri_call e.2.2.2.1 (.ref a :: (st.take (ri_na e.2.2.2.1)).reverse) (pc + 3) ls r w else none
    | _ => none) else none
  | none => none
def ri_xcp (pc : Nat) (ls : ri_L) (st : List Value) (w : ri_W) : ri_R := match st with
  | .int n :: .int dp :: .ref a :: .int sp :: .ref a0 :: r => (match ri_gI w a0, ri_gI w a, ri_gJ w a0, ri_gJ w a with
    | some (n0, f), some (n1, g), _, _ => if ¬ sp < 0 ∧ ¬ dp < 0 ∧ ¬ n < 0 ∧ sp.toNatClampNeg + n.toNatClampNeg ≤ n0 ∧ dp.toNatClampNeg + n.toNatClampNeg ≤ n1 ∧ ri_sh r = true then ri_nx (pc + 3) ls r (w.set a (ri_I n1 (va_cpy f g sp.toNatClampNeg dp.toNatClampNeg n.toNatClampNeg))) else none
    | _, _, some (n0, f), some (n1, g) => if ¬ sp < 0 ∧ ¬ dp < 0 ∧ ¬ n < 0 ∧ sp.toNatClampNeg + n.toNatClampNeg ≤ n0 ∧ dp.toNatClampNeg + n.toNatClampNeg ≤ n1 ∧ ri_sh r = true then ri_nx (pc + 3) ls r (w.set a (ri_J n1 (va_cpy f g sp.toNatClampNeg dp.toNatClampNeg n.toNatClampNeg))) else none
    | _, _, _, _ => none)
  | _ => none
def ri_xmn (pc : Nat) (ls : ri_L) (st : List Value) (w : ri_W) : ri_R := match st with
  | .int y :: .int x :: r => if ri_sh r = true then ri_nx (pc + 3) ls (.int (if y < x then y else x) :: r) w else none
  | _ => none
def ri_xmx (pc : Nat) (ls : ri_L) (st : List Value) (w : ri_W) : ri_R := match st with
  | .int y :: .int x :: r => if ri_sh r = true then ri_nx (pc + 3) ls (.int (if x < y then y else x) :: r) w else none
  | _ => none
def ri_xis_ (y pc : Nat) (e : Option (Nat × Nat × Nat × Nat × List Nat)) (ls : ri_L) (st : List Value) (w : ri_W) : ri_R := match e with
  | some e => if e.2.2.1 = 1 ∨ e.2.2.1 = 2 then (if ri_na e.2.2.2.1 ≤ st.length ∧ ri_sh (st.drop (ri_na e.2.2.2.1)) = true then ri_call e.2.2.2.1 (st.take (ri_na e.2.2.2.1)).reverse (pc + 3) ls (st.drop (ri_na e.2.2.2.1)) w else none)
    else if 1 ≤ ri_rk y then (if e.2.2.1 = 5 then ri_xmn pc ls st w else if e.2.2.1 = 6 then ri_xmx pc ls st w else if e.2.2.1 = 7 then ri_xcp pc ls st w else none) else none
  | none => none
def ri_xip (y pc : Nat) (e : Option (Nat × Nat × Nat × Nat × List Nat)) (ls : ri_L) (st : List Value) (w : ri_W) : ri_R := match e with
  | some e => if e.2.2.1 = 3 then (match st.drop (ri_na e.2.2.2.1) with
    | .ref a :: r => if ri_sh r = true then ri_call e.2.2.2.1 (.ref a :: (st.take (ri_na e.2.2.2.1)).reverse) (pc + 3) ls r w else none
    | _ => none) else if e.2.2.1 = 4 ∧ 1 ≤ ri_rk y then (match st with
    | .ref _ :: r => if ri_sh r = true then ri_nx (pc + 3) ls r w else none
    | _ => none) else none
  | none => none
def ri_okr : Option FieldType → Int32 → Bool
  | some .int, _ => true
  | some .boolean, x => x == 0 || x == 1
  | _, _ => false
def ri_xir (y : Nat) (st : List Value) (w : ri_W) : ri_R := match st with
  | [.int x] => if ri_okr (ri_rt y) x = true then ri_ret (some (.int x)) w else none
  | _ => none
def ri_xlr (y : Nat) (st : List Value) (w : ri_W) : ri_R := match st with
  | [.long x] => if ri_rt y = some .long then ri_ret (some (.long x)) w else none
  | _ => none
def ri_xar (y : Nat) (st : List Value) (w : ri_W) : ri_R := match st with
  | [.ref a] => (match ri_rt y with
    | some (.object _) => ri_ret (some (.ref a)) w
    | _ => none)
  | _ => none
def ri_xvr (y : Nat) (st : List Value) (w : ri_W) : ri_R := match st with
  | [] => if ri_rt y = none then ri_ret none w else none
  | _ => none
/-- one instruction -/
def ri_ex (y : Nat) (sc : Nat × (Nat → Int32)) (i : Instr) (pc : Nat) (ls : ri_L) (st : List Value) (w : ri_W) : ri_R := match i with
  | .aload_n k => ri_xla (pc + 1) (ri_lv ls k) ls st w
  | .iload_n k => ri_xli (pc + 1) (ri_lv ls k) ls st w
  | .iload k => ri_xli (pc + 2) (ri_lv ls k) ls st w
  | .lload_n k => ri_xll (pc + 1) (ri_lv ls k) ls st w
  | .lload k => ri_xll (pc + 2) (ri_lv ls k) ls st w
  | .iconst n => ri_nx (pc + 1) ls (.int (Int32.ofInt n) :: st) w
  | .bipush n => ri_nx (pc + 2) ls (.int (Int8.ofInt n).toInt32 :: st) w
  | .sipush n => ri_nx (pc + 3) ls (.int (Int16.ofInt n).toInt32 :: st) w
  | .lconst n => ri_nx (pc + 1) ls (.long (Int64.ofNat n) :: st) w
  | .istore_n k => ri_xsi y (pc + 1) k ls st w
  | .istore k => ri_xsi y (pc + 2) k ls st w
  | .astore_n k => ri_xsa y (pc + 1) k ls st w
  | .lstore_n k => ri_xsl y (pc + 1) k ls st w
  | .lstore k => ri_xsl y (pc + 2) k ls st w
  | .iinc k n => ri_xinc y pc k n ls st w
  | .dup => ri_xdup pc ls st w
  | .dup2 => ri_xdup2 pc ls st w
  | .iadd => ri_x2 (fun x y => x + y) pc ls st w
  | .isub => ri_x2 (fun x y => x - y) pc ls st w
  | .imul => ri_x2 (fun x y => x * y) pc ls st w
  | .iand => ri_x2 (fun x y => x &&& y) pc ls st w
  | .ixor => ri_x2 (fun x y => x ^^^ y) pc ls st w
  | .ior => ri_x2 (fun x y => x ||| y) pc ls st w
  | .ishr => ri_x2 (fun x y => x >>> (y &&& 31)) pc ls st w
  | .idiv => ri_xd (fun x y => x / y) pc ls st w
  | .irem => ri_xd (fun x y => x - x / y * y) pc ls st w
  | .ladd => ri_x2l (fun x y => x + y) pc ls st w
  | .lsub => ri_x2l (fun x y => x - y) pc ls st w
  | .lmul => ri_x2l (fun x y => x * y) pc ls st w
  | .lcmp => ri_xcm pc ls st w
  | .i2l => ri_xi2l pc ls st w
  | .pop => ri_xpop pc ls st w
  | .land => ri_x2l (fun x y => x &&& y) pc ls st w
  | .lor => ri_x2l (fun x y => x ||| y) pc ls st w
  | .lxor => ri_x2l (fun x y => x ^^^ y) pc ls st w
  | .lshl => ri_xsh (fun x y => x <<< (y.toInt64 &&& 63)) pc ls st w
  | .lushr => ri_xsh (fun x y => (x.toUInt64 >>> (y.toInt64.toUInt64 &&& Int64.toUInt64 63)).toInt64) pc ls st w
  | .l2i => ri_xl2i pc ls st w
  | .i2c => ri_xi2c pc ls st w
  | .goto off => ri_jmp y pc off ls st w
  | .ifCond c off => ri_xif y pc c off ls st w
  | .if_icmp c off => ri_xic y pc c off ls st w
  | .ifnonnull off => ri_xnn y pc off ls st w
  | .ifnull _ => ri_xnu pc ls st w
  | .tableswitch d lo hi os => ri_xts y pc d lo hi os ls st w
  | .lookupswitch d ps => ri_xlo y pc d ps ls st w
  | .getfield ix => ri_xgf pc (ri_flk (ri_ow y) ix) ls st w
  | .putfield ix => ri_xpf y pc (ri_flk (ri_ow y) ix) ls st w
  | .iaload => ri_xia sc pc ls st w
  | .laload => ri_xja pc ls st w
  | .aaload => ri_xaa pc ls st w
  | .iastore => ri_xis pc ls st w
  | .lastore => ri_xjs pc ls st w
  | .aastore => ri_xas pc ls st w
  | .arraylength => ri_xal sc pc ls st w
  | .new ix => ri_xnew pc (ri_clk (ri_ow y) ix) ls st w
  | .newarray t => ri_xna t pc ls st w
  | .anewarray ix => ri_xan y ix pc ls st w
  | .ldc2_w ix => ri_xld pc (ri_llk (ri_ow y) ix) ls st w
  | .ldc ix => ri_xldi pc (ri_dlk (ri_ow y) ix) ls st w
  | .invokevirtual ix => ri_xiv pc (ri_mlk (ri_ow y) ix) ls st w
  | .invokestatic ix => ri_xis_ y pc (ri_mlk (ri_ow y) ix) ls st w
  | .invokespecial ix => ri_xip y pc (ri_mlk (ri_ow y) ix) ls st w
  | .ireturn => ri_xir y st w
  | .lreturn => ri_xlr y st w
  | .areturn => ri_xar y st w
  | .return_ => ri_xvr y st w
  | _ => none
def ri_ln : Instr → Nat
  | .iload _ => 2
  | .lload _ => 2
  | .bipush _ => 2
  | .sipush _ => 3
  | .istore _ => 2
  | .lstore _ => 2
  | .iinc _ _ => 3
  | .goto _ => 3
  | .ifCond _ _ => 3
  | .if_icmp _ _ => 3
  | .ifnonnull _ => 3
  | .ifnull _ => 3
  | .getfield _ => 3
  | .putfield _ => 3
  | .new _ => 3
  | .newarray _ => 2
  | .anewarray _ => 3
  | .ldc2_w _ => 3
  | .ldc _ => 2
  | .invokevirtual _ => 3
  | .invokestatic _ => 3
  | .invokespecial _ => 3
  | _ => 1
def ri_lok : Instr → Nat → Bool
  | .tableswitch _ _ _ _, _ => true
  | .lookupswitch _ _, _ => true
  | i, n => n == ri_ln i
/-- the run of a method: n instructions deep -/
def ri_run (sc : Nat × (Nat → Int32)) : Nat → Nat → ri_C → Option ri_X
  | 0, _, _ => none
  | n + 1, y, c => match decode (ri_bc y) c.1 with
    | .error _ => none
    | .ok (i, len) => if ri_lok i len = true then (match ri_ex y sc i c.1 c.2.1 c.2.2.1 c.2.2.2 with
      | none => none
      | some (.inl c') => ri_run sc n y c'
      | some (.inr (.inl x)) => some x
      | some (.inr (.inr (z, as, c'))) => if ri_rk z < ri_rk y ∧ z < 100 ∧ (lg_sl as).length ≤ ri_ml z then (match ri_run sc n z (0, lv_args 0 as, [], c'.2.2.2) with
        | some x => ri_run sc n y (c'.1, c'.2.1, x.1.toList ++ c'.2.2.1, x.2)
        | none => none) else none) else none

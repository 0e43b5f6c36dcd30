/-! one instruction's step, as what must hold; jop at an instruction in its plain form (slots by number, targets by place) -/
def jnorm (pc : Nat) : Instr → Instr
  | .iload_n n => .iload n.val
  | .aload_n n => .aload n.val
  | .lload_n n => .lload n.val
  | .istore_n n => .istore n.val
  | .astore_n n => .astore n.val
  | .goto off => .goto (pc + off)
  | .ifCond c off => .ifCond c (pc + off)
  | .if_icmp c off => .if_icmp c (pc + off)
  | .tableswitch d lo hi offs => .tableswitch (pc + d) lo hi (offs.map (fun o => pc + o))
  | x => x
def jcd (i pc : Nat) : Option (Instr × Nat) := (jcode i pc).map (fun r => (jnorm pc r.1, pc + r.2))
/-- what is checked once of every row of the code -/
def jchk (i : Nat) (q : Nat × Instr × Nat) : Bool := match q.2.1 with
  | .iload_n _ => q.2.2 == 1
  | .aload_n _ => q.2.2 == 1
  | .lload_n _ => q.2.2 == 1
  | .istore_n k => q.2.2 == 1 && decide (k.val < jl i)
  | .astore_n k => q.2.2 == 1 && decide (k.val < jl i)
  | .iload _ => q.2.2 == 2
  | .aload _ => q.2.2 == 2
  | .lload _ => q.2.2 == 2
  | .istore k => q.2.2 == 2 && decide (k < jl i)
  | .astore k => q.2.2 == 2 && decide (k < jl i)
  | .iinc k _ => q.2.2 == 3 && decide (k < jl i)
  | .bipush _ => q.2.2 == 2
  | .sipush _ => q.2.2 == 3
  | .ldc _ => q.2.2 == 2
  | .ldc2_w _ => q.2.2 == 3
  | .getfield _ => q.2.2 == 3
  | .putfield _ => q.2.2 == 3
  | .invokevirtual _ => q.2.2 == 3
  | .invokestatic _ => q.2.2 == 3
  | .invokespecial _ => q.2.2 == 3
  | .new _ => q.2.2 == 3
  | .newarray _ => q.2.2 == 2
  | .goto o => q.2.2 == 3 && decide (0 ≤ (q.1 : Int) + o)
  | .ifCond _ o => q.2.2 == 3 && decide (0 ≤ (q.1 : Int) + o)
  | .if_icmp _ o => q.2.2 == 3 && decide (0 ≤ (q.1 : Int) + o)
  | .tableswitch d lo hi offs => decide (0 ≤ (q.1 : Int) + d) && offs.toList.all (fun o => decide (0 ≤ (q.1 : Int) + o)) && decide (lo ≤ hi) && decide ((offs.size : Int) = hi - lo + 1) && decide (0 ≤ lo) && decide (hi < 1000)
  | .ireturn => q.2.2 == 1 && (jr i == some .int || jr i == some .boolean)
  | .return_ => q.2.2 == 1 && (jr i).isNone
  | _ => q.2.2 == 1
theorem jchk_all : ∀ i, i < 119 → ∀ q ∈ jKs.getD i [], jchk i q = true := by decide +kernel
theorem jchk_of {i pc : Nat} {r : Instr × Nat} (h : jcode i pc = some r) : jchk i (pc, r) = true := by
  have hi := jlt h
  obtain ⟨a, h1, h2⟩ := jfind (f := fun a => a == pc) (show ((jKs.getD i []).find? (fun q => q.1 == pc)).map (fun q => q.2) = some r from h)
  have ha : a = pc := by simpa using h2
  subst ha
  exact jchk_all i hi (a, r) h1
/-! the shapes of stack, locals and heap that an instruction wants -/
def j1i (st : List Value) (F : Int32 → List Value → Prop) : Prop := match st with
  | .int x :: r => F x r
  | _ => False
def j1r (st : List Value) (F : Nat → List Value → Prop) : Prop := match st with
  | .ref a :: r => F a r
  | _ => False
def j1l (st : List Value) (F : Int64 → List Value → Prop) : Prop := match st with
  | .long x :: r => F x r
  | _ => False
def j2i (st : List Value) (F : Int32 → Int32 → List Value → Prop) : Prop := match st with
  | .int y :: .int x :: r => F x y r
  | _ => False
def j2l (st : List Value) (F : Int64 → Int64 → List Value → Prop) : Prop := match st with
  | .long y :: .long x :: r => F x y r
  | _ => False
def jil (st : List Value) (F : Int64 → Int32 → List Value → Prop) : Prop := match st with
  | .int y :: .long x :: r => F x y r
  | _ => False
def jia (st : List Value) (F : Nat → Int32 → List Value → Prop) : Prop := match st with
  | .int j :: .ref a :: r => F a j r
  | _ => False
def jiia (st : List Value) (F : Nat → Int32 → Int32 → List Value → Prop) : Prop := match st with
  | .int x :: .int j :: .ref a :: r => F a j x r
  | _ => False
def jlia (st : List Value) (F : Nat → Int32 → Int64 → List Value → Prop) : Prop := match st with
  | .long x :: .int j :: .ref a :: r => F a j x r
  | _ => False
def jgi (o : Option (Option Value)) (F : Int32 → Prop) : Prop := match o with
  | some (some (.int x)) => F x
  | _ => False
def jgl (o : Option (Option Value)) (F : Int64 → Prop) : Prop := match o with
  | some (some (.long x)) => F x
  | _ => False
def jgr (o : Option (Option Value)) (F : Nat → Prop) : Prop := match o with
  | some (some (.ref x)) => F x
  | _ => False
def jar (o : Option jC) (t : Nat) (F : Nat → (Nat → Int32) → Prop) : Prop := match o with
  | some (.inl (t', n, .inl f)) => t' = t ∧ F n f
  | _ => False
def jal (o : Option jC) (F : Nat → (Nat → Int64) → Prop) : Prop := match o with
  | some (.inl (t', n, .inr f)) => t' = 2 ∧ F n f
  | _ => False
def job (o : Option jC) (k : Nat) (F : List Value → Prop) : Prop := match o with
  | some (.inr (k', fs)) => k' = k ∧ F fs
  | _ => False
def jso {α : Type} (o : Option α) (F : α → Prop) : Prop := match o with
  | some a => F a
  | none => False
theorem j1i_s {st : List Value} {F : Int32 → List Value → Prop} (h : j1i st F) : ∃ x r, st = .int x :: r ∧ F x r := by
  unfold j1i at h; split at h
  · exact ⟨_, _, rfl, h⟩
  · exact h.elim
theorem j1r_s {st : List Value} {F : Nat → List Value → Prop} (h : j1r st F) : ∃ x r, st = .ref x :: r ∧ F x r := by
  unfold j1r at h; split at h
  · exact ⟨_, _, rfl, h⟩
  · exact h.elim
theorem j1l_s {st : List Value} {F : Int64 → List Value → Prop} (h : j1l st F) : ∃ x r, st = .long x :: r ∧ F x r := by
  unfold j1l at h; split at h
  · exact ⟨_, _, rfl, h⟩
  · exact h.elim
theorem j2i_s {st : List Value} {F : Int32 → Int32 → List Value → Prop} (h : j2i st F) : ∃ x y r, st = .int y :: .int x :: r ∧ F x y r := by
  unfold j2i at h; split at h
  · exact ⟨_, _, _, rfl, h⟩
  · exact h.elim
theorem j2l_s {st : List Value} {F : Int64 → Int64 → List Value → Prop} (h : j2l st F) : ∃ x y r, st = .long y :: .long x :: r ∧ F x y r := by
  unfold j2l at h; split at h
  · exact ⟨_, _, _, rfl, h⟩
  · exact h.elim
theorem jil_s {st : List Value} {F : Int64 → Int32 → List Value → Prop} (h : jil st F) : ∃ x y r, st = .int y :: .long x :: r ∧ F x y r := by
  unfold jil at h; split at h
  · exact ⟨_, _, _, rfl, h⟩
  · exact h.elim
theorem jia_s {st : List Value} {F : Nat → Int32 → List Value → Prop} (h : jia st F) : ∃ a j r, st = .int j :: .ref a :: r ∧ F a j r := by
  unfold jia at h; split at h
  · exact ⟨_, _, _, rfl, h⟩
  · exact h.elim
theorem jiia_s {st : List Value} {F : Nat → Int32 → Int32 → List Value → Prop} (h : jiia st F) : ∃ a j x r, st = .int x :: .int j :: .ref a :: r ∧ F a j x r := by
  unfold jiia at h; split at h
  · exact ⟨_, _, _, _, rfl, h⟩
  · exact h.elim
theorem jlia_s {st : List Value} {F : Nat → Int32 → Int64 → List Value → Prop} (h : jlia st F) : ∃ a j x r, st = .long x :: .int j :: .ref a :: r ∧ F a j x r := by
  unfold jlia at h; split at h
  · exact ⟨_, _, _, _, rfl, h⟩
  · exact h.elim
theorem jgi_s {o : Option (Option Value)} {F : Int32 → Prop} (h : jgi o F) : ∃ x, o = some (some (.int x)) ∧ F x := by
  unfold jgi at h; split at h
  · exact ⟨_, rfl, h⟩
  · exact h.elim
theorem jgl_s {o : Option (Option Value)} {F : Int64 → Prop} (h : jgl o F) : ∃ x, o = some (some (.long x)) ∧ F x := by
  unfold jgl at h; split at h
  · exact ⟨_, rfl, h⟩
  · exact h.elim
theorem jgr_s {o : Option (Option Value)} {F : Nat → Prop} (h : jgr o F) : ∃ x, o = some (some (.ref x)) ∧ F x := by
  unfold jgr at h; split at h
  · exact ⟨_, rfl, h⟩
  · exact h.elim
theorem jar_s {o : Option jC} {t : Nat} {F : Nat → (Nat → Int32) → Prop} (h : jar o t F) : ∃ n f, o = some (.inl (t, n, .inl f)) ∧ F n f := by
  unfold jar at h; split at h
  · obtain ⟨rfl, h⟩ := h; exact ⟨_, _, rfl, h⟩
  · exact h.elim
theorem jal_s {o : Option jC} {F : Nat → (Nat → Int64) → Prop} (h : jal o F) : ∃ n f, o = some (.inl (2, n, .inr f)) ∧ F n f := by
  unfold jal at h; split at h
  · obtain ⟨rfl, h⟩ := h; exact ⟨_, _, rfl, h⟩
  · exact h.elim
theorem job_s {o : Option jC} {k : Nat} {F : List Value → Prop} (h : job o k F) : ∃ fs, o = some (.inr (k, fs)) ∧ F fs := by
  unfold job at h; split at h
  · obtain ⟨rfl, h⟩ := h; exact ⟨_, rfl, h⟩
  · exact h.elim
theorem jso_s {α : Type} {o : Option α} {F : α → Prop} (h : jso o F) : ∃ a, o = some a ∧ F a := by
  unfold jso at h; split at h
  · exact ⟨_, rfl, h⟩
  · exact h.elim
def jcnd : ClassFile.Cond → Int32 → Int32 → Prop
  | .eq, x, y => x = y
  | .ne, x, y => ¬ x = y
  | .lt, x, y => x < y
  | .ge, x, y => y ≤ x
  | .gt, x, y => y < x
  | .le, x, y => x ≤ y
/-- at most four values -/
def jrest : List Value → Bool
  | [] => true
  | [_] => true
  | [_, _] => true
  | [_, _, _] => true
  | [_, _, _, _] => true
  | _ => false
theorem jrest_s {r : List Value} (h : jrest r = true) : (r.map fun v => v.category).sum ≤ 8 := by
  have hc : ∀ v : Value, v.category ≤ 2 := fun v => by cases v <;> simp [Value.category]
  match r, h with
  | [], _ => simp
  | [a], _ => simp; have := hc a; omega
  | [a, b], _ => simp; have := hc a; have := hc b; omega
  | [a, b, c], _ => simp; have := hc a; have := hc b; have := hc c; omega
  | [a, b, c, d], _ => simp; have := hc a; have := hc b; have := hc c; have := hc d; omega
/-- the callee's room in the caller's -/
def jfit (i k c s : Nat) : Bool := decide ((jm k).frames + 1 ≤ (jm i).frames) && decide (8 + (jl k + 11) + (jm k).locals ≤ (jm i).locals) && decide (c + (jm k).cells ≤ (jm i).cells) && decide (s + (jm k).slots ≤ (jm i).slots)
def jtake : Nat → List Value → List Value → Option (List Value × List Value)
  | 0, acc, st => some (acc, st)
  | n + 1, acc, v :: st => jtake n (v :: acc) st
  | _ + 1, _, [] => none
theorem jtake_s : ∀ (n : Nat) (acc st as r : List Value), jtake n acc st = some (as, r) → ∃ bs, bs.length = n ∧ st = bs.reverse ++ r ∧ as = bs ++ acc
  | 0, acc, st, as, r, h => by cases h; exact ⟨[], rfl, rfl, rfl⟩
  | n + 1, acc, v :: st, as, r, h => by
    obtain ⟨bs, h1, h2, h3⟩ := jtake_s n (v :: acc) st as r h
    refine ⟨bs ++ [v], by simp [h1], by simp [h2], by simp [h3]⟩
  | n + 1, acc, [], as, r, h => by cases h
/-- the callee's locals at its entry -/
def jent : List Value → List (Option Value)
  | [] => []
  | .long x :: r => some (.long x) :: none :: jent r
  | .double x :: r => some (.double x) :: none :: jent r
  | v :: r => some v :: jent r
def jpad (n : Nat) (l : List (Option Value)) : List (Option Value) := l ++ List.replicate (n - l.length) none
/-- all references below n (or the script's) -/
def jwfv (n : Nat) : Value → Bool
  | .ref k => decide (k < n) || k == 9999
  | _ => true
def jwf (n : Nat) (loc : List (Option Value)) (st : List Value) : Bool := loc.all (fun o => match o with | some v => jwfv n v | none => true) && st.all (jwfv n)
def jwfh (n : Nat) (h : List jC) : Bool := h.all (fun c => match c with | .inl _ => true | .inr o => o.2.all (jwfv n))
/-- long constants -/
def jlong (i x : Nat) : Option Int64 := if jo i = 3 ∧ x = 211 then some 15 else if jo i = 5 ∧ x = 137 then some 4294967295 else none
/-- kinds of fields: 0 a number, 1 a reference that is set once -/
def jfk (k f : Nat) : Nat := if (((jCl[k]?).getD ("", jT0, 0)).2.1 f).2.2.2 = true then 1 else 0
/-- a new object's fields -/
def jdef (k : Nat) : List Value := (List.range ((jCl[k]?).getD ("", jT0, 0)).2.2).map (fun f => if jfk k f = 0 then .int 0 else .null)
abbrev jK : Type := Nat → List (Option Value) → List Value → List jC → Nat → Nat → Prop
/-- a callee's end, seen by its caller -/
def jback (i pc nx k : Nat) (loc : List (Option Value)) (r : List Value) (h : List jC) (c s : Nat) (K : jK) (Q : jO → List jC → Prop) : jO → List jC → Prop := fun o h' =>
  match o with
  | .inl v => (h'.length = h.length ∨ jwf h.length loc r = true) ∧ K nx loc (v.toList ++ r) h' (c + jrc k) (s + jrs k)
  | .inr X => (h'.length = h.length ∨ jwf h.length loc r = true) ∧ match jhan i pc X with
    | some q => jso (jcd i q) (fun z => match z.1 with
      | .astore j => jfree loc j = true ∧ K z.2 (loc.set j none) [] h' (c + (jm k).cells) (s + (jm k).slots)
      | _ => False)
    | none => (jh i).isEmpty = true ∧ Q (.inr X) h'
def jcall (l : Launch) (E : jEnv) (i pc x nx : Nat) (loc : List (Option Value)) (st : List Value) (h : List jC) (c s : Nat) (K : jK) (Q : jO → List jC → Prop) (kinds : List Nat) : Prop :=
  jso (jcal i x) fun q => q.1 ∈ kinds ∧ jso (jtake (jp q.2 + (if q.1 = 1 ∨ q.1 = 4 ∨ q.1 = 6 then 0 else 1)) [] st) fun a =>
    jrest a.2 = true ∧ jfit i q.2 c s = true ∧ (jent a.1).length ≤ jl q.2 ∧ (q.1 = 0 → jso a.1[0]? fun v => match v with
      | .ref b => job h[b]? (jo q.2) fun _ => True
      | _ => False) ∧ (q.1 = 2 ∨ q.1 = 5 → jso a.1[0]? fun v => match v with
      | .ref _ => True
      | _ => False) ∧ GO l E q.2 0 (jpad (jl q.2) (jent a.1)) [] h 0 0 (jback i pc nx q.2 loc a.2 h c s K Q)
def jop (l : Launch) (E : jEnv) (i pc : Nat) (ins : Instr) (nx : Nat) (loc : List (Option Value)) (st : List Value) (h : List jC) (c s : Nat) (K : jK) (Q : jO → List jC → Prop) : Prop := match ins with
  | .iload k => jgi loc[k]? fun x => K nx loc (.int x :: st) h c s
  | .lload k => jgl loc[k]? fun x => K nx loc (.long x :: st) h c s
  | .aload k => jgr loc[k]? fun x => K nx loc (.ref x :: st) h c s
  | .istore k => j1i st fun x r => jfree loc k = true ∧ K nx (loc.set k (some (.int x))) r h c s
  | .astore k => j1r st fun x r => jfree loc k = true ∧ K nx (loc.set k (some (.ref x))) r h c s
  | .iinc k n => jgi loc[k]? fun x => jfree loc k = true ∧ K nx (loc.set k (some (.int (x + Int32.ofInt n)))) st h c s
  | .iconst n => K nx loc (.int (Int32.ofInt n) :: st) h c s
  | .bipush n => K nx loc (.int (Int8.ofInt n).toInt32 :: st) h c s
  | .sipush n => K nx loc (.int (Int16.ofInt n).toInt32 :: st) h c s
  | .lconst n => K nx loc (.long (Int64.ofNat n.val) :: st) h c s
  | .ldc2_w x => jso (jlong i x) fun v => K nx loc (.long v :: st) h c s
  | .iadd => j2i st fun x y r => K nx loc (.int (x + y) :: r) h c s
  | .isub => j2i st fun x y r => K nx loc (.int (x - y) :: r) h c s
  | .imul => j2i st fun x y r => K nx loc (.int (x * y) :: r) h c s
  | .iand => j2i st fun x y r => K nx loc (.int (x &&& y) :: r) h c s
  | .ior => j2i st fun x y r => K nx loc (.int (x ||| y) :: r) h c s
  | .ixor => j2i st fun x y r => K nx loc (.int (x ^^^ y) :: r) h c s
  | .ishl => j2i st fun x y r => K nx loc (.int (x <<< (y &&& 31)) :: r) h c s
  | .ishr => j2i st fun x y r => K nx loc (.int (x >>> (y &&& 31)) :: r) h c s
  | .idiv => j2i st fun x y r => ¬ y = 0 ∧ K nx loc (.int (x / y) :: r) h c s
  | .irem => j2i st fun x y r => ¬ y = 0 ∧ K nx loc (.int (x - x / y * y) :: r) h c s
  | .i2l => j1i st fun x r => K nx loc (.long x.toInt64 :: r) h c s
  | .l2i => j1l st fun x r => K nx loc (.int x.toInt32 :: r) h c s
  | .land => j2l st fun x y r => K nx loc (.long (x &&& y) :: r) h c s
  | .lor => j2l st fun x y r => K nx loc (.long (x ||| y) :: r) h c s
  | .lshl => jil st fun x y r => K nx loc (.long (x <<< (y.toInt64 &&& 63)) :: r) h c s
  | .lshr => jil st fun x y r => K nx loc (.long (x >>> (y.toInt64 &&& 63)) :: r) h c s
  | .lushr => jil st fun x y r => K nx loc (.long (x.toUInt64 >>> (y.toInt64.toUInt64 &&& Int64.toUInt64 63)).toInt64 :: r) h c s
  | .lcmp => j2l st fun x y r => K nx loc (.int (lg_cmp x y) :: r) h c s
  | .dup => j1r st fun a r => K nx loc (.ref a :: .ref a :: r) h c s
  | .dup2 => jia st fun a j r => K nx loc (.int j :: .ref a :: .int j :: .ref a :: r) h c s
  | .goto t => K t.toNat loc st h c s
  | .ifCond cd t => j1i st fun x r => (jcnd cd x 0 → K t.toNat loc r h c s) ∧ (¬ jcnd cd x 0 → K nx loc r h c s)
  | .if_icmp cd t => j2i st fun x y r => (jcnd cd x y → K t.toNat loc r h c s) ∧ (¬ jcnd cd x y → K nx loc r h c s)
  | .tableswitch d lo hi ts => j1i st fun x r => (∀ (k : Nat) (t : Int), ts.toList[k]? = some t → x.toInt = lo + k → K t.toNat loc r h c s) ∧ (x.toInt < lo ∨ hi < x.toInt → K d.toNat loc r h c s)
  | .getfield x => j1r st fun a r => jso (jfld i x) fun q => job h[a]? q.1 fun fs => jso fs[q.2]? fun v => K nx loc (v :: r) h c s
  | .putfield x => match st with
    | .int v :: .ref a :: r => jso (jfld i x) fun q => jfk q.1 q.2 = 0 ∧ job h[a]? q.1 fun fs => q.2 < fs.length ∧ K nx loc r (h.set a (.inr (q.1, fs.set q.2 (.int v)))) c s
    | .ref v :: .ref a :: r => jso (jfld i x) fun q => jfk q.1 q.2 = 1 ∧ (jn i).name = "<init>" ∧ jo i = q.1 ∧ job h[a]? q.1 fun fs => q.2 < fs.length ∧ K nx loc r (h.set a (.inr (q.1, fs.set q.2 (.ref v)))) c s
    | _ => False
  | .iaload => jia st fun a j r => (a = 9999 ∧ vp_in j E.2.2.2.2.2.1 ∧ K nx loc (.int (E.2.2.2.2.2.2 j.toNatClampNeg) :: r) h c s) ∨ (jar h[a]? 0 fun n f => vp_in j n ∧ K nx loc (.int (f j.toNatClampNeg) :: r) h c s)
  | .baload => jia st fun a j r => jar h[a]? 1 fun n f => vp_in j n ∧ K nx loc (.int (f j.toNatClampNeg) :: r) h c s
  | .laload => jia st fun a j r => jal h[a]? fun n f => vp_in j n ∧ K nx loc (.long (f j.toNatClampNeg) :: r) h c s
  | .iastore => jiia st fun a j x r => jar h[a]? 0 fun n f => vp_in j n ∧ K nx loc r (h.set a (.inl (0, n, .inl (upd f j.toNatClampNeg x)))) c s
  | .bastore => jiia st fun a j x r => jar h[a]? 1 fun n f => vp_in j n ∧ K nx loc r (h.set a (.inl (1, n, .inl (upd f j.toNatClampNeg (x &&& 1))))) c s
  | .lastore => jlia st fun a j x r => jal h[a]? fun n f => vp_in j n ∧ K nx loc r (h.set a (.inl (2, n, .inr (vp_updL f j.toNatClampNeg x)))) c s
  | .arraylength => j1r st fun a r => (a = 9999 ∧ K nx loc (.int (Int32.ofNat E.2.2.2.2.2.1) :: r) h c s) ∨ (jar h[a]? 0 fun n _ => K nx loc (.int (Int32.ofNat n) :: r) h c s)
  | .ireturn => match st with
    | [.int v] => (jr i = some .boolean → v &&& 1 = v) ∧ c ≤ jrc i ∧ s ≤ jrs i ∧ Q (.inl (some (.int v))) h
    | _ => False
  | .return_ => match st with
    | [] => c ≤ jrc i ∧ s ≤ jrs i ∧ Q (.inl none) h
    | _ => False
  | .invokevirtual x => jcall l E i pc x nx loc st h c s K Q [0]
  | .invokestatic x => jcall l E i pc x nx loc st h c s K Q [1, 4, 6]
  | .invokespecial x => match jobj i x with
    | true => j1r st fun _ r => jrest r = true ∧ 1 ≤ (jm i).frames ∧ 20 ≤ (jm i).locals ∧ K nx loc r h c s
    | false => jcall l E i pc x nx loc st h c s K Q [2, 5]
  | .new x => match jthr i pc with
    | some q => jrest st = true ∧ 6 ≤ (jm i).frames ∧ 90 ≤ (jm i).locals ∧ c + 1 ≤ (jm i).cells ∧ s + 6 ≤ (jm i).slots ∧ Q (.inr q.2.2.2.1) h
    | none => jso (jnew i x) fun k => jwf h.length loc st = true ∧ jwfh h.length h = true ∧ h.length < 9999 ∧ c + 1 ≤ (jm i).cells ∧ s + (jdef k).length ≤ (jm i).slots ∧ K nx loc (.ref h.length :: st) (h ++ [.inr (k, jdef k)]) (c + 1) (s + (jdef k).length)
  | .newarray t => j1i st fun n r => jwf h.length loc r = true ∧ jwfh h.length h = true ∧ h.length < 9999 ∧ ¬ n < 0 ∧ n.toNatClampNeg ≤ 100000 ∧ c + 1 ≤ (jm i).cells ∧ s + n.toNatClampNeg ≤ (jm i).slots ∧
      match t with
      | .int => K nx loc (.ref h.length :: r) (h ++ [.inl (0, n.toNatClampNeg, .inl fun _ => 0)]) (c + 1) (s + n.toNatClampNeg)
      | .boolean => K nx loc (.ref h.length :: r) (h ++ [.inl (1, n.toNatClampNeg, .inl fun _ => 0)]) (c + 1) (s + n.toNatClampNeg)
      | .long => K nx loc (.ref h.length :: r) (h ++ [.inl (2, n.toNatClampNeg, .inr fun _ => 0)]) (c + 1) (s + n.toNatClampNeg)
      | _ => False
  | _ => False

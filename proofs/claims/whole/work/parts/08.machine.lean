/-! OUR SMALL MACHINE: logical values and cells, and what they are in the real heap -/
/-- a logical value's real one: addresses by al -/
def jt (al : Nat → Nat) (v : Value) : Value := match v with
  | .ref k => .ref (al k)
  | .int x => .int x
  | .long x => .long x
  | .float x => .float x
  | .double x => .double x
  | .null => .null
  | .retAddr x => .retAddr x
theorem jt_cat (al : Nat → Nat) (v : Value) : (jt al v).category = v.category := by cases v <;> rfl
theorem jt_sum (al : Nat → Nat) (vs : List Value) : ((vs.map (jt al)).map fun v => v.category).sum = (vs.map fun v => v.category).sum := by
  rw [List.map_map]
  congr 1
  exact List.map_congr_left fun v _ => jt_cat al v
/-- a logical cell: an array (number of its type, length, contents), an object (number of its kind, fields) -/
abbrev jC : Type := (Nat × Nat × ((Nat → Int32) ⊕ (Nat → Int64))) ⊕ (Nat × List Value)
def jE (cA : Nat → ClassId) (al : Nat → Nat) (c : jC) : va_E := match c with
  | .inl (t, n, .inl f) => .inl (cA t, n, .inl f)
  | .inl (t, n, .inr f) => .inl (cA t, n, .inr (.inl f))
  | .inr (k, fs) => .inr (k, fs.map (jt al))
def jW (cA : Nat → ClassId) (al : Nat → Nat) : Nat → List jC → va_W
  | _, [] => []
  | k, c :: r => (al k, jE cA al c) :: jW cA al (k + 1) r
theorem jW_get (cA : Nat → ClassId) (al : Nat → Nat) : ∀ (h : List jC) (n k : Nat), (jW cA al n h)[k]? = (h[k]?).map (fun c => (al (n + k), jE cA al c))
  | [], n, k => by simp [jW]
  | c :: r, n, 0 => by simp [jW]
  | c :: r, n, k + 1 => by
    simp only [jW, List.getElem?_cons_succ]
    rw [jW_get cA al r (n + 1) k, show n + 1 + k = n + (k + 1) by omega]
theorem jW_set (cA : Nat → ClassId) (al : Nat → Nat) : ∀ (h : List jC) (n k : Nat) (c : jC), jW cA al n (h.set k c) = (jW cA al n h).set k (al (n + k), jE cA al c)
  | [], n, k, c => by simp [jW]
  | d :: r, n, 0, c => by simp [jW]
  | d :: r, n, k + 1, c => by
    simp only [jW, List.set_cons_succ]
    rw [jW_set cA al r (n + 1) k, show n + 1 + k = n + (k + 1) by omega]
theorem jW_app (cA : Nat → ClassId) (al : Nat → Nat) : ∀ (h : List jC) (n : Nat) (c : jC), jW cA al n (h ++ [c]) = jW cA al n h ++ [(al (n + h.length), jE cA al c)]
  | [], n, c => by simp [jW]
  | d :: r, n, c => by
    simp only [jW, List.cons_append, List.length_cons]
    rw [jW_app cA al r (n + 1) c, show n + 1 + r.length = n + (r.length + 1) by omega]
theorem jW_at {cA : Nat → ClassId} {al : Nat → Nat} {h : List jC} {k : Nat} {c : jC} (hk : h[k]? = some c) : (jW cA al 0 h)[k]? = some (al k, jE cA al c) := by
  rw [jW_get, hk, Nat.zero_add]; rfl
/-- the environment: numbers of the real tables; the heap's size at the start; the script -/
abbrev jEnv : Type := (Nat → ClassId) × (Nat → Nat → Nat) × (Nat → ClassId) × Nat × Nat × Nat × (Nat → Int32)
def jA (E : jEnv) : Nat → Prop := fun q => E.2.2.2.1 ≤ q
def jD (E : jEnv) : va_G := (E.1, E.2.1)
def jtys (E : jEnv) : List (ClassId × FieldType) := [(E.2.2.1 0, .int), (E.2.2.1 1, .boolean), (E.2.2.1 2, .long)]
/-- what holds of the tables and of the cells that nobody writes -/
def jBase (E : jEnv) (U : State) (H : Heap) : Prop :=
  va_K (jD E) jCl (jtys E) U ∧ vx_Zq Bundle.tN "UNASSIGNED_STACK" Bundle.steD (jA E) U H ∧ vx_Zq Bundle.tN "SUPPRESSED_SENTINEL" Bundle.listD (jA E) U H ∧
  (∀ q ∈ jStr, ∃ sa, vk_R "TrainingRows" q.1 q.2 sa U) ∧ (∀ q ∈ jNcL, va_Nc q.1 q.2 U) ∧ (∀ q ∈ jNest, va_Nw (.methodLinkNest q.1 q.2.1 q.2.2.1 q.2.2.2) U) ∧
  (∀ q ∈ jDecl, va_Nw (.declares q) U) ∧ (∀ q ∈ jCast, va_Nw (.castable q q) U) ∧ va_X E.2.2.2.2.1 E.2.2.2.2.2.1 E.2.2.2.2.2.2 U H ∧ E.2.2.2.1 ≤ H.size ∧ E.2.2.2.2.1 < E.2.2.2.1
theorem jBase_moved {E : jEnv} {s U : State} {H0 H : Heap} (hW : s.WarmedH U.vm) (hz : H0.size ≤ H.size) (hk : ∀ q : Nat, q < H0.size → ¬ jA E q → H[q]? = H0[q]?) (h : jBase E s H0) : jBase E U H := by
  obtain ⟨h1, h2, h3, h4, h5, h6, h7, h8, h9, h10, h11⟩ := h
  refine ⟨va_K.moved hW.alike h1, vx_Zq.moved hW.alike (h2.kept hk), vx_Zq.moved hW.alike (h3.kept hk), fun q hq => ?_, fun q hq => va_Nc.moved hW.alike (h5 q hq), fun q hq => va_Nw.warmM hW (h6 q hq), fun q hq => va_Nw.warmD hW (h7 q hq), fun q hq => va_Nw.warmC hW (h8 q hq), va_X.moved hW.alike (h9.kept (hk _ (by omega) (Nat.not_le.mpr h11))), by omega, h11⟩
  obtain ⟨sa, ha⟩ := h4 q hq
  exact ⟨sa, vk_R.warm hW ha⟩
/-- the heap H holds the logical heap h, at the addresses al; the script is address 9999 -/
def jHeap (E : jEnv) (al : Nat → Nat) (h : List jC) (H : Heap) : Prop := va_P (jD E) jCl (jW E.2.2.1 al 0 h) H ∧ va_D (jA E) (jW E.2.2.1 al 0 h) ∧ al 9999 = E.2.2.2.2.1
/-- later addresses agree with the earlier ones -/
def jExt (al : Nat → Nat) (h : List jC) (al' : Nat → Nat) (h' : List jC) : Prop := h.length ≤ h'.length ∧ (∀ k, k < h.length → al' k = al k) ∧ (h'.length = h.length → al' = al)
theorem jExt_rf {al : Nat → Nat} {h : List jC} : jExt al h al h := ⟨Nat.le_refl _, fun _ _ => rfl, fun _ => rfl⟩
theorem jExt_set {al al' : Nat → Nat} {h h' : List jC} {k : Nat} {c : jC} (x : jExt al h al' h') : jExt al h al' (h'.set k c) := by
  obtain ⟨x1, x2, x3⟩ := x
  exact ⟨by rw [List.length_set]; exact x1, x2, fun e => x3 (by rw [List.length_set] at e; exact e)⟩
theorem jExt_tr {al al' al'' : Nat → Nat} {h h' h'' : List jC} (x : jExt al h al' h') (y : jExt al' h' al'' h'') : jExt al h al'' h'' := by
  obtain ⟨x1, x2, x3⟩ := x
  obtain ⟨y1, y2, y3⟩ := y
  refine ⟨by omega, fun k hk => (y2 k (by omega)).trans (x2 k hk), fun e => ?_⟩
  rw [y3 (by omega), x3 (by omega)]
/-- an outcome: returned with a value or without, or thrown, by its exact name -/
abbrev jO : Type := Option Value ⊕ String
def jQc (E : jEnv) (Q : jO → List jC → Prop) (al0 : Nat → Nat) (h0 : List jC) : Array Value → State → Outcome → State → Prop := fun _ st o t =>
  ∃ (v : Option Value) (al' : Nat → Nat) (h' : List jC), o = .returned (v.map (jt al')) ∧ Q (.inl v) h' ∧ jExt al0 h0 al' h' ∧ jHeap E al' h' t.heap ∧ va_F (jA E) st t
def jXC (E : jEnv) (Q : jO → List jC → Prop) (al0 : Nat → Nat) (h0 : List jC) : String → State → State → Prop := fun X st t =>
  ∃ (al' : Nat → Nat) (h' : List jC), X ∈ jCast ∧ Q (.inr X) h' ∧ jExt al0 h0 al' h' ∧ jHeap E al' h' t.heap ∧ va_F (jA E) st t
def jMQ (E : jEnv) (Q : jO → List jC → Prop) (i : Nat) (al0 : Nat → Nat) (h0 : List jC) (below : List Frame) (a : Array Value) (s : State) : State → Prop := fun t =>
  ∃ o, t.status = .running ∧ Ended t below o ∧ jQ (jQc E Q al0 h0) (jXC E Q al0 h0) (jrc i) (jrs i) (jm i).cells (jm i).slots (jA E) a s o t
def jCtx (l : Launch) (E : jEnv) (i : Nat) (p : Program) (S : State) (m : MethodId) (args : Array Value) (meth : Method) (cd : Code) : Prop :=
  p.tables.exec = Jvm.exec ∧ cd.code = jb i ∧ cd.maxLocals = jl i ∧ meth.sig.returnType = jr i ∧ S.vm.findClass (jcn (jo i)) = some m.cls ∧ (∀ w ∈ jGW, w.before args S = true) ∧ cd.exceptionTable.toList = tableOf (jh i) ∧ meth.locks = false ∧ ((jn i).name = "<init>" → meth.name = "<init>") ∧ jBase E S S.heap ∧ l.stackTraces = false
/-- the locals, slot by slot; what is none is not known -/
def jlist : Nat → List (Option Value) → List (Nat × Value)
  | _, [] => []
  | k, none :: r => jlist (k + 1) r
  | k, some v :: r => (k, v) :: jlist (k + 1) r
theorem jlist_mem : ∀ (loc : List (Option Value)) (n : Nat) (q : Nat × Value), q ∈ jlist n loc ↔ ∃ j, q.1 = n + j ∧ loc[j]? = some (some q.2)
  | [], n, q => by simp [jlist]
  | none :: r, n, q => by
    rw [jlist, jlist_mem r (n + 1) q]
    constructor
    · rintro ⟨j, h1, h2⟩
      exact ⟨j + 1, by omega, by simpa using h2⟩
    · rintro ⟨j, h1, h2⟩
      cases j with
      | zero => simp at h2
      | succ j => exact ⟨j, by omega, by simpa using h2⟩
  | some v :: r, n, q => by
    rw [jlist, List.mem_cons, jlist_mem r (n + 1) q]
    constructor
    · rintro (rfl | ⟨j, h1, h2⟩)
      · exact ⟨0, rfl, rfl⟩
      · exact ⟨j + 1, by omega, by simpa using h2⟩
    · rintro ⟨j, h1, h2⟩
      cases j with
      | zero => left; simp at h2; obtain ⟨a, b⟩ := q; simp at h1 h2; rw [h1, h2]
      | succ j => right; exact ⟨j, by omega, by simpa using h2⟩
def jlv (al : Nat → Nat) (loc : List (Option Value)) : List (Nat × Value) := (jlist 0 loc).map (fun q => (q.1, jt al q.2))
theorem jlv_mem {al : Nat → Nat} {loc : List (Option Value)} {k : Nat} {v : Value} (h : loc[k]? = some (some v)) : (k, jt al v) ∈ jlv al loc :=
  List.mem_map.mpr ⟨(k, v), (jlist_mem loc 0 (k, v)).mpr ⟨k, (Nat.zero_add k).symm, h⟩, rfl⟩
theorem jlv_at {al : Nat → Nat} {loc : List (Option Value)} {k n : Nat} {v : Value} {ls : Array Slot} (hl : lv_has ls n (jlv al loc)) (h : loc[k]? = some (some v)) : ls[k]? = some (.val (jt al v)) := hl.2.2 _ (jlv_mem h)
/-- from here the method i comes to its end, and there Q -/
def GO (l : Launch) (E : jEnv) (i pc : Nat) (loc : List (Option Value)) (st : List Value) (h : List jC) (c s : Nat) (Q : jO → List jC → Prop) : Prop :=
  ∀ (p : Program) (e : Env) (S : State) (m : MethodId) (args : Array Value) (below : List Frame) (meth : Method) (cd : Code), jCtx l E i p S m args meth cd →
  ∀ (al0 : Nat → Nat) (h0 : List jC) (al : Nat → Nat) (H : Heap) (locs : List Loc) (ls : Array Slot), jExt al0 h0 al h → jHeap E al h H → va_S (jA E) S.heap H locs → lv_has ls (jl i) (jlv al loc) →
  W p l e (jm i) S m args below meth cd H locs c s (jMQ E Q i al0 h0 below args S) (F0 m pc ls (st.map (jt al)))
/-- a store into a slot that no long covers -/
def jfree (loc : List (Option Value)) : Nat → Bool
  | 0 => true
  | k + 1 => match loc[k]? with
    | some (some (.long _)) => false
    | some (some (.double _)) => false
    | _ => true
theorem jlv_put {al : Nat → Nat} {loc : List (Option Value)} {i n : Nat} {v : Value} {ls : Array Slot} (hf : jfree loc i = true) (h : lv_has ls n ((i, jt al v) :: (jlv al loc).filter (fun q => !(q.1 == i) && !(q.1 + 1 == i && q.2.category == 2)))) : lv_has ls n (jlv al (loc.set i (some v))) := by
  refine ⟨h.1, h.2.1, fun q hq => h.2.2 q ?_⟩
  obtain ⟨⟨j, w⟩, hw, rfl⟩ := List.mem_map.mp hq
  obtain ⟨k, hk, hg⟩ := (jlist_mem _ 0 (j, w)).mp hw
  rw [Nat.zero_add] at hk
  dsimp only at hk hg ⊢
  subst hk
  by_cases hji : j = i
  · subst hji
    have hlt : j < loc.length := by
      have := (List.getElem?_eq_some_iff.mp hg).1
      rwa [List.length_set] at this
    rw [List.getElem?_set_self hlt] at hg
    cases hg
    exact List.mem_cons_self
  · rw [List.getElem?_set_ne (Ne.symm hji)] at hg
    refine List.mem_cons_of_mem _ (List.mem_filter.mpr ⟨jlv_mem hg, ?_⟩)
    simp only [Bool.and_eq_true, Bool.not_eq_true', beq_eq_false_iff_ne, ne_eq, Bool.and_eq_false_iff]
    refine ⟨hji, ?_⟩
    by_cases h1 : j + 1 = i
    · right
      subst h1
      rw [jt_cat]
      cases w with
      | long x => simp [jfree, hg] at hf
      | double x => simp [jfree, hg] at hf
      | _ => simp [Value.category]
    · left; exact h1
/-- a value is forgotten -/
theorem jlv_drop {al : Nat → Nat} {loc : List (Option Value)} {i n : Nat} {v : Value} {ls : Array Slot} (hf : jfree loc i = true) (h : lv_has ls n ((i, v) :: (jlv al loc).filter (fun q => !(q.1 == i) && !(q.1 + 1 == i && q.2.category == 2)))) : lv_has ls n (jlv al (loc.set i none)) := by
  refine ⟨h.1, h.2.1, fun q hq => h.2.2 q ?_⟩
  obtain ⟨⟨j, w⟩, hw, rfl⟩ := List.mem_map.mp hq
  obtain ⟨k, hk, hg⟩ := (jlist_mem _ 0 (j, w)).mp hw
  rw [Nat.zero_add] at hk
  dsimp only at hk hg ⊢
  subst hk
  by_cases hji : j = i
  · subst hji
    have hlt : j < loc.length := by
      have := (List.getElem?_eq_some_iff.mp hg).1
      rwa [List.length_set] at this
    rw [List.getElem?_set_self hlt] at hg
    cases hg
  · rw [List.getElem?_set_ne (Ne.symm hji)] at hg
    refine List.mem_cons_of_mem _ (List.mem_filter.mpr ⟨jlv_mem hg, ?_⟩)
    simp only [Bool.and_eq_true, Bool.not_eq_true', beq_eq_false_iff_ne, ne_eq, Bool.and_eq_false_iff]
    refine ⟨hji, ?_⟩
    by_cases h1 : j + 1 = i
    · right
      subst h1
      rw [jt_cat]
      cases w with
      | long x => simp [jfree, hg] at hf
      | double x => simp [jfree, hg] at hf
      | _ => simp [Value.category]
    · left; exact h1

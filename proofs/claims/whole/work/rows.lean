section
/-! ===== BEGIN words of one list among another's, by their places ===== -/
theorem goodIn_r {big : List Cond} (ws : List Cond) (ps : List Nat) (hp : ws = ps.filterMap (fun i => big[i]?)) (h : ws.all goodWord = true) : GoodIn big ws := by
  intro w hw
  have h1 := List.all_eq_true.mp h w hw
  rw [hp] at hw
  obtain ⟨i, -, hi⟩ := List.mem_filterMap.mp hw
  have hm : w ∈ big := by first | exact List.mem_of_getElem? hi | exact List.getElem?_mem hi
  exact ⟨hm, good_of_word h1⟩
theorem goodIn_app {big a b : List Cond} (ha : GoodIn big a) (hb : GoodIn big b) : GoodIn big (a ++ b) := fun w h => (List.mem_append.mp h).elim (ha w) (hb w)
theorem goodIn_ca {big a b : List Cond} {c : Cond} (ha : GoodIn big (c :: a)) (hb : GoodIn big b) : GoodIn big (c :: (a ++ b)) := fun w h => (List.mem_cons.mp h).elim (fun e => ha w (List.mem_cons.mpr (Or.inl e))) (fun h => (List.mem_append.mp h).elim (fun h => ha w (List.mem_cons.mpr (Or.inr h))) (hb w))
theorem goodIn_sub {big ws : List Cond} (hm : ∀ w ∈ ws, w ∈ big) (h : ws.all goodWord = true) : GoodIn big ws := fun w hw => ⟨hm w hw, good_of_word (List.all_eq_true.mp h w hw)⟩
/-! ===== END ===== -/

/-! ===== BEGIN exceptions that leave a method, and their catching by the caller (launches without stack traces) ===== -/
section VXA
/-! The laws vx_back, vx_callV, vx_callS, vx_callSW, vx_throw0, vx_throwS follow proofs of the library, with one case more: JvmDerived/Free/Laws.lean (Back.of_free), Shelf42/LK1.lean (callV, callS), Shelf/KitTraced.lean (throwNew0V, throwNewS). -/
/-- where a method has thrown q: the class by its name, the cell, what was written, the world -/
def vx_T (XC : String → State → State → Prop) (st : State) (q : Addr) (t : State) (mc ms : Nat) (free : Addr → Prop) : Prop :=
  ∃ (E : String) (ce : Cell) (L : List Loc), XC E st t ∧ t.heap[q]? = some ce ∧ ce.vm = .none ∧ st.vm.findClass E = some ce.cls ∧ st.WarmedH t.vm ∧ st.sameButNew ({ t with vm := st.vm } : State) L mc ms ∧ ∀ z ∈ L, free z.base
def vx_Q (Qc : Array Value → State → Outcome → State → Prop) (XC : String → State → State → Prop) (mc ms : Nat) (free : Addr → Prop) : Array Value → State → Outcome → State → Prop := fun a st o t =>
  (Qc a st o t ∧ ∃ L, FrameEnd st o t L mc ms ∧ ∀ q ∈ L, free q.base) ∨ ∃ q, o = .threw q ∧ vx_T XC st q t mc ms free
/-- a callee that returns or throws -/
def vx_Met (l : Launch) (y : MethodName) (ws : List Cond) (rm : Room) (Pc : Array Value → State → Prop) (Qc : Array Value → State → Outcome → State → Prop) (XC : String → State → State → Prop) (mc ms : Nat) (free : Addr → Prop) : Prop :=
  MetFree l y (headSpec ws rm) Pc (fun _ _ _ _ _ => True) (vx_Q Qc XC mc ms free)
def vx_Post (XC : String → State → State → Prop) (mc ms : Nat) (free : Addr → Prop) : Pt → Array Value → Addr → Pt → Prop := fun A a q B =>
  ∃ (g : JFrame) (mk : MethodId) (t : State) (L : List Loc) (E : String) (ce : Cell), B.U.heap = t.heap ∧ B.U.vm = t.vm ∧ XC E (A.U.calling g mk a) t ∧ t.heap[q]? = some ce ∧ ce.vm = .none ∧ A.U.vm.findClass E = some ce.cls ∧ B.locs = A.locs ++ L ∧ (∀ z ∈ L, free z.base) ∧ B.cells = A.cells + mc ∧ B.slots = A.slots + ms
def vx_Back (l : Launch) (R : Room) (p : Program) (e : Env) (below : List Frame) (s : State) (sargs : Array Value) (y : MethodName) (len W9 : Nat)
    (Pre : Pt → Array Value → Prop) (Post : Pt → Array Value → Option Value → Pt → Prop) (PostX : Pt → Array Value → Addr → Pt → Prop) : Prop :=
  ∀ (m : MethodId) (meth : Method) (c : Code) (A : Pt) (g : JFrame) (ig : Instr) (mk : MethodId) (a : Array Value),
    Stand p l e R s m sargs below meth c A.U A.locs A.cells A.slots → g.method = m → g.locals.size = c.maxLocals → decode c.code g.pc = .ok (ig, len) →
    2 * g.monitorRoom + (g.stack.map fun v => v.category).sum ≤ W9 → A.U.methodNamed? y = some mk → Pre A a →
    (∃ (v : Option Value) (B : Pt), Stand p l e R s m sargs below meth c B.U B.locs B.cells B.slots ∧ Post A a v B ∧
      Steps p.tables e below (doInvoke e (A.U.setTop g) [] mk a).1 (B.U.setTop { g with pc := g.pc + len, stack := v.toList ++ g.stack })) ∨
    (∃ (q : Addr) (B : Pt), Stand p l e R s m sargs below meth c B.U B.locs B.cells B.slots ∧ PostX A a q B ∧
      Steps p.tables e below (doInvoke e (A.U.setTop g) [] mk a).1 ((B.U.setTop g).pushFrame (.throwing q)))
section Payer
variable {l : Launch} {R : Room} {p : Program} {e : Env} {below : List Frame} {s : State} {sargs : Array Value} {y : MethodName} {len W9 : Nat}
theorem vx_back {ws : List Cond} {rm : Room} {Pc : Array Value → State → Prop} {Qc : Array Value → State → Outcome → State → Prop} {XC : String → State → State → Prop} {mc ms : Nat} {free : Addr → Prop} {bytes : ByteArray} {maxL : Nat} {ret : Option FieldType}
    (hM : vx_Met l y ws rm Pc Qc XC mc ms free) (hblind : FrameBlind Pc) (hrc : rm.cells = mc) (hrs : rm.slots = ms)
    (hframes : rm.frames + 1 ≤ R.frames) (hlocals : W9 + (maxL + 11) + rm.locals ≤ R.locals)
    (hws : ∀ w ∈ ws, ∀ a' U, s.WarmedH U.vm → w.before a' U = true) (hcode : Cond.code y bytes maxL ret ∈ ws) (hinit : ∀ a' U, s.WarmedH U.vm → (Cond.initialized y.cls).before a' U = true) :
    vx_Back l R p e below s sargs y len W9 (PreOf R mc ms Pc) (PostOf Qc mc ms free) (vx_Post XC mc ms free) := by
  intro m meth c A g ig mk a X hg hsize hdg hW hn hp
  have h1 : (headSpec ws rm).pre.before a A.U = true := atoms_intro fun w hw => hws w hw _ _ X.warmed
  have h2 : (Cond.code y bytes maxL ret).before a A.U = true := hws _ hcode _ _ X.warmed
  have h3 : (Cond.initialized y.cls).before a A.U = true := hinit _ _ X.warmed
  have h4 : A.cells + (headSpec ws rm).room.cells ≤ R.cells := by rw [show (headSpec ws rm).room.cells = mc from hrc]; exact hp.1
  have h5 : A.slots + (headSpec ws rm).room.slots ≤ R.slots := by rw [show (headSpec ws rm).room.slots = ms from hrs]; exact hp.2.1
  have hPc : Pc a (A.U.calling g mk a) := hblind _ _ _ _ hp.2.2
  obtain ⟨U, Ls, c0, s0⟩ := A
  dsimp only [Pt.U, Pt.locs, Pt.cells, Pt.slots] at h1 h2 h3 h4 h5 X hn hPc ⊢
  obtain ⟨methY, cY, hmY, hcY, -, hlY, -, -, -, -⟩ := Cond.code_spec hn h2
  obtain ⟨kY, hkY, -⟩ := className_of_methodNamed hn
  have hinitY : kY.init = .initialized := Cond.initialized_spec (findClass_of_methodNamed hn) hkY h3
  have h : At U g.method c below := by rw [hg]; exact X.here
  have hlocals9 : W9 + (maxL + 11) + (headSpec ws rm).room.locals ≤ R.locals := hlocals
  have happ : (headSpec ws rm).appliesLoose y e.platform (U.calling g mk a) = true :=
    Spec.appliesLoose_calling (g := g) h hdg hn hkY hinitY
      (X.room_calling (g := g) (R' := (headSpec ws rm).room) hsize hmY hcY hframes (by rw [hlY]; omega) h4 h5) h1
  obtain ⟨mid, hmid⟩ := h.above
  have hfr : (U.setTop g).frames = (.java g :: mid) ++ below := by rw [State.frames_setTop' g h.top, hmid]; rfl
  obtain ⟨o, s₂, hsteps, -, hend, hq⟩ := Steps.callFree hM p X.admits X.cas X.clock (acts := []) hfr happ hPc trivial
  have hq' : vx_Q Qc XC mc ms free a (U.calling g mk a) o s₂ := hq
  rw [State.frames_setTop' g h.top] at hend
  obtain ⟨g₀, hg0⟩ := Option.isSome_iff_exists.mp h.top
  obtain ⟨r, hr⟩ := State.topJava?_eq_some.mp hg0
  have hr' : (({ U with heap := s₂.heap, slotsUsed := s₂.slotsUsed } : State).setVm s₂.vm).frames = .java g₀ :: r := hr
  rcases hq' with ⟨hqc, L, hfe, hL⟩ | ⟨q, rfl, E, ce, L, hx, hce, hcv, hcl, hW₂, hsm, hL⟩
  · obtain ⟨⟨v, rfl⟩, hW₂, e2, q2, q3, q4, q5, q6⟩ := id hfe
    have e3 : s₂ = ({ (U.calling g mk a).setFrames s₂.frames with heap := s₂.heap, slotsUsed := s₂.slotsUsed } : State).setVm s₂.vm := by
      have : s₂ = ({ s₂ with vm := (U.calling g mk a).vm } : State).setVm s₂.vm := rfl
      rw [e2] at this
      exact this
    obtain ⟨c₂, i₂, len₂, hc₂, hd₂, hf₂⟩ := hend
    have hW' : U.WarmedH s₂.vm := hW₂
    have hcc : c₂ = c := by
      have h1 : s₂.code? g.method = U.code? g.method := by
        rw [State.code?_eq, State.code?_eq, hW'.alike.method?]
      exact Option.some.inj (hc₂.symm.trans (h1.trans h.code))
    subst hcc
    have hlen : len₂ = len := by rw [hdg] at hd₂; cases hd₂; rfl
    subst hlen
    have hs₂ : s₂ = (({ U with heap := s₂.heap, slotsUsed := s₂.slotsUsed } : State).setVm s₂.vm).setTop { g with pc := g.pc + len₂, stack := v.toList ++ g.stack } := by
      refine e3.trans ?_
      rw [hf₂, State.calling_eq h.top, State.setFrames_setFrames, State.setTop_of_frames _ hr', hr]
      rfl
    have hsame : U.sameButNew ({ U with heap := s₂.heap, slotsUsed := s₂.slotsUsed } : State) L mc ms := by
      refine ⟨?_, q2, q3, q4, q5, q6⟩
      obtain ⟨t, ht, -⟩ := State.frames_cons hr
      show ({ U with heap := s₂.heap, slotsUsed := s₂.slotsUsed } : State) = { U.setFrames U.frames with heap := s₂.heap, slotsUsed := s₂.slotsUsed }
      rw [State.setFrames_self ht]
    subst hg
    refine Or.inl ⟨v, ⟨(({ U with heap := s₂.heap, slotsUsed := s₂.slotsUsed } : State).setVm s₂.vm), Ls ++ L, c0 + mc, s0 + ms⟩,
      ⟨X.admits, X.cas, X.clock, X.frames, X.room, X.hears, X.method, X.code, (X.here.setHeapUsed s₂.heap s₂.slotsUsed).setVm hW'.alike, X.tail, State.WarmedH.trans X.warmed hW', X.limits, X.bytes, X.same.trans (hsame.setVm s.vm)⟩,
      ⟨g, mk, s₂, L, rfl, rfl, hqc, rfl, hL, rfl, rfl⟩, ?_⟩
    show Steps p.tables e below _ ((({ U with heap := s₂.heap, slotsUsed := s₂.slotsUsed } : State).setVm s₂.vm).setTop { g with pc := g.pc + len₂, stack := v.toList ++ g.stack })
    rw [← hs₂]
    exact hsteps
  · obtain ⟨e2, q2, q3, q4, q5, q6⟩ := id hsm
    have e3 : s₂ = ({ (U.calling g mk a).setFrames s₂.frames with heap := s₂.heap, slotsUsed := s₂.slotsUsed } : State).setVm s₂.vm := by
      have : s₂ = ({ s₂ with vm := (U.calling g mk a).vm } : State).setVm s₂.vm := rfl
      rw [e2] at this
      exact this
    have hf₂ : s₂.frames = .throwing q :: .java g :: U.frames.tail := hend
    have hW' : U.WarmedH s₂.vm := hW₂
    have hs₂ : s₂ = ((({ U with heap := s₂.heap, slotsUsed := s₂.slotsUsed } : State).setVm s₂.vm).setTop g).pushFrame (.throwing q) := by
      refine e3.trans ?_
      rw [hf₂, State.calling_eq h.top, State.setFrames_setFrames, State.pushFrame, State.frames_setTop _ hr', State.setTop_of_frames _ hr', State.setFrames_setFrames, hr]
      rfl
    have hsame : U.sameButNew ({ U with heap := s₂.heap, slotsUsed := s₂.slotsUsed } : State) L mc ms := by
      refine ⟨?_, q2, q3, q4, q5, q6⟩
      obtain ⟨t, ht, -⟩ := State.frames_cons hr
      show ({ U with heap := s₂.heap, slotsUsed := s₂.slotsUsed } : State) = { U.setFrames U.frames with heap := s₂.heap, slotsUsed := s₂.slotsUsed }
      rw [State.setFrames_self ht]
    subst hg
    refine Or.inr ⟨q, ⟨(({ U with heap := s₂.heap, slotsUsed := s₂.slotsUsed } : State).setVm s₂.vm), Ls ++ L, c0 + mc, s0 + ms⟩,
      ⟨X.admits, X.cas, X.clock, X.frames, X.room, X.hears, X.method, X.code, (X.here.setHeapUsed s₂.heap s₂.slotsUsed).setVm hW'.alike, X.tail, State.WarmedH.trans X.warmed hW', X.limits, X.bytes, X.same.trans (hsame.setVm s.vm)⟩,
      ⟨g, mk, s₂, L, E, ce, rfl, rfl, hx, hce, hcv, hcl, rfl, hL, rfl, rfl⟩, ?_⟩
    show Steps p.tables e below _ (((({ U with heap := s₂.heap, slotsUsed := s₂.slotsUsed } : State).setVm s₂.vm).setTop g).pushFrame (.throwing q))
    rw [← hs₂]
    exact hsteps
end Payer
section Calls
variable {p : Program} {l : Launch} {e : Env} {R : Room} {s : State} {m : MethodId} {args : Array Value} {below : List Frame} {meth : Method} {c : Code} {T : State} {locs : List Loc} {cells slots : Nat}
theorem vx_callV (X : Stand p l e R s m args below meth c T locs cells slots) (hexec : p.tables.exec = Jvm.exec) {own C : String} {index : Nat} {y : MethodName} {bytes : ByteArray} {maxL : Nat} {ret : Option FieldType}
    (hown : s.vm.findClass own = some m.cls) (hlink : (Cond.methodLink own index y).before args s = true) (hinst : (Cond.instanceMethod y).before args s = true) (hsel : (Cond.selects C y y).before args s = true)
    (hcode : (Cond.code y bytes maxL ret).before args s = true) (hy : y.cls ≠ "java/lang/invoke/MethodHandle" ∧ y.cls ≠ "java/lang/invoke/VarHandle")
    {W9 : Nat} {Pre : Pt → Array Value → Prop} {Post : Pt → Array Value → Option Value → Pt → Prop} {PostX : Pt → Array Value → Addr → Pt → Prop} (hK : vx_Back l R p e below s args y 3 W9 Pre Post PostX)
    {b : Addr} {cellB : Cell} (hcell : T.heap[b]? = some cellB) (hobj : cellB.vm.isStatics = false) (hcls : s.vm.findClass C = some cellB.cls)
    {g : JFrame} (hg : g.method = m) (hsize : g.locals.size = c.maxLocals) {argsL rest : List Value} (hlen : ∀ sig, parseMethodDescriptor y.desc = some sig → argsL.length = sig.parameters.length)
    (hstack : g.stack = argsL.reverse ++ .ref b :: rest) (hW : 2 * g.monitorRoom + (rest.map fun v => v.category).sum ≤ W9) (hdg : decode c.code g.pc = .ok (.invokevirtual index, 3))
    (hpre : ∀ vm₁, s.WarmedH vm₁ → Pre ⟨T.setVm vm₁, locs, cells, slots⟩ (Value.ref b :: argsL).toArray) :
    (∃ (v : Option Value) (vm₁ : Vm) (B : Pt), s.WarmedH vm₁ ∧ Stand p l e R s m args below meth c B.U B.locs B.cells B.slots ∧ Post ⟨T.setVm vm₁, locs, cells, slots⟩ (Value.ref b :: argsL).toArray v B ∧
      ∀ target, Steps p.tables e below (B.U.setTop { g with pc := g.pc + 3, stack := v.toList ++ rest }) target → Steps p.tables e below (T.setTop g) target) ∨
    (∃ (q : Addr) (vm₁ : Vm) (B : Pt), s.WarmedH vm₁ ∧ Stand p l e R s m args below meth c B.U B.locs B.cells B.slots ∧ PostX ⟨T.setVm vm₁, locs, cells, slots⟩ (Value.ref b :: argsL).toArray q B ∧
      Steps p.tables e below (T.setTop g) ((B.U.setTop { g with stack := rest }).pushFrame (.throwing q))) := by
  obtain ⟨mk, methM, hnamed, hmethM, hstM, habM⟩ := Cond.instanceMethod_spec hinst
  obtain ⟨methM', cM, hmethM', -, -, -, -, -, -, hsigM⟩ := Cond.code_spec hnamed hcode
  cases hmethM.symm.trans hmethM'
  obtain ⟨c2, r2, m2, q1, q2, q3, q4, kP, hkP, hkPi⟩ := Cond.selects_spec hsel
  cases hcls.symm.trans q1
  cases (State.methodFound?_of_named hnamed hy).symm.trans q2
  cases hnamed.symm.trans q3
  have hselP : selectMethod e.platform s.vm cellB.cls mk = .method mk := by rw [Launch.admits_selectMethod X.admits]; exact q4
  obtain ⟨vm₁, X₁, hstep₁⟩ := X.invokevirtual hexec hown hlink hnamed hmethM hstM hkP hkPi hy (a := b) (cell := cellB) hcell
    (fun z h => by rw [h] at hobj; cases hobj) hselP hmethM habM hkP hkPi (g := g) hg (argsL := argsL) (rest := rest) (hlen _ hsigM) hstack hdg
  rcases hK m meth c ⟨T.setVm vm₁, locs, cells, slots⟩ { g with stack := rest } (.invokevirtual index) mk (Value.ref b :: argsL).toArray X₁ hg hsize hdg hW (X₁.named hnamed) (hpre vm₁ X₁.warmed) with ⟨v, B, X', hpost, hsteps⟩ | ⟨q, B, X', hpost, hsteps⟩
  · exact Or.inl ⟨v, vm₁, B, X₁.warmed, X', hpost, fun target h => hstep₁ _ fun acts => by rw [doInvoke_state]; exact hsteps.trans h⟩
  · exact Or.inr ⟨q, vm₁, B, X₁.warmed, X', hpost, hstep₁ _ fun acts => by rw [doInvoke_state]; exact hsteps⟩
theorem vx_callS (X : Stand p l e R s m args below meth c T locs cells slots) (hexec : p.tables.exec = Jvm.exec) {own : String} {index : Nat} {y : MethodName} {bytes : ByteArray} {maxL : Nat} {ret : Option FieldType}
    (hown : s.vm.findClass own = some m.cls) (hlink : (Cond.methodLink own index y).before args s = true) (hstat : (Cond.static y).before args s = true) (hinit : (Cond.initialized y.cls).before args s = true)
    (hcode : (Cond.code y bytes maxL ret).before args s = true) (hy : y.cls ≠ "java/lang/invoke/MethodHandle" ∧ y.cls ≠ "java/lang/invoke/VarHandle")
    {W9 : Nat} {Pre : Pt → Array Value → Prop} {Post : Pt → Array Value → Option Value → Pt → Prop} {PostX : Pt → Array Value → Addr → Pt → Prop} (hK : vx_Back l R p e below s args y 3 W9 Pre Post PostX)
    {g : JFrame} (hg : g.method = m) (hsize : g.locals.size = c.maxLocals) {argsL rest : List Value} (hlen : ∀ sig, parseMethodDescriptor y.desc = some sig → argsL.length = sig.parameters.length)
    (hstack : g.stack = argsL.reverse ++ rest) (hW : 2 * g.monitorRoom + (rest.map fun v => v.category).sum ≤ W9) (hdg : decode c.code g.pc = .ok (.invokestatic index, 3))
    (hpre : ∀ vm₁, s.WarmedH vm₁ → Pre ⟨T.setVm vm₁, locs, cells, slots⟩ argsL.toArray) :
    (∃ (v : Option Value) (vm₁ : Vm) (B : Pt), s.WarmedH vm₁ ∧ Stand p l e R s m args below meth c B.U B.locs B.cells B.slots ∧ Post ⟨T.setVm vm₁, locs, cells, slots⟩ argsL.toArray v B ∧
      ∀ target, Steps p.tables e below (B.U.setTop { g with pc := g.pc + 3, stack := v.toList ++ rest }) target → Steps p.tables e below (T.setTop g) target) ∨
    (∃ (q : Addr) (vm₁ : Vm) (B : Pt), s.WarmedH vm₁ ∧ Stand p l e R s m args below meth c B.U B.locs B.cells B.slots ∧ PostX ⟨T.setVm vm₁, locs, cells, slots⟩ argsL.toArray q B ∧
      Steps p.tables e below (T.setTop g) ((B.U.setTop { g with stack := rest }).pushFrame (.throwing q))) := by
  obtain ⟨mk, hnamed⟩ := Cond.code_named hcode
  obtain ⟨methM, cM, hmethM, -, -, -, -, -, -, hsigM⟩ := Cond.code_spec hnamed hcode
  have hstatic : methM.isStatic = true := Cond.static_spec hnamed hmethM hstat
  obtain ⟨kP, hkP, -⟩ := className_of_methodNamed hnamed
  have hinitP : kP.init = .initialized := Cond.initialized_spec (findClass_of_methodNamed hnamed) hkP hinit
  obtain ⟨vm₁, X₁, hstep₁⟩ := X.invokestatic hexec hown hlink hnamed hmethM hstatic hkP hinitP hy (g := g) hg (argsL := argsL) (rest := rest) (hlen _ hsigM) hstack hdg
  rcases hK m meth c ⟨T.setVm vm₁, locs, cells, slots⟩ { g with stack := rest } (.invokestatic index) mk argsL.toArray X₁ hg hsize hdg hW (X₁.named hnamed) (hpre vm₁ X₁.warmed) with ⟨v, B, X', hpost, hsteps⟩ | ⟨q, B, X', hpost, hsteps⟩
  · exact Or.inl ⟨v, vm₁, B, X₁.warmed, X', hpost, fun target h => hstep₁ _ fun acts => by rw [doInvoke_state]; exact hsteps.trans h⟩
  · exact Or.inr ⟨q, vm₁, B, X₁.warmed, X', hpost, hstep₁ _ fun acts => by rw [doInvoke_state]; exact hsteps⟩
end Calls
theorem vx_cls {s : State} {T : State} {vm₁ : Vm} {E : String} {k : ClassId} (hW : s.WarmedH vm₁) (h : (T.setVm vm₁).vm.findClass E = some k) : s.vm.findClass E = some k := by
  have h1 : vm₁.findClass E = some k := h
  rw [hW.alike.findClass] at h1
  exact h1
/-- the method's frame g, with q thrown over it -/
def vx_W (p : Program) (l : Launch) (e : Env) (R : Room) (s : State) (m : MethodId) (args : Array Value) (below : List Frame) (meth : Method) (c : Code) (H : Heap) (locs : List Loc) (cells slots : Nat) (Q : State → Prop) (g : JFrame) (q : Addr) : Prop :=
  ∀ T : State, T.heap = H → Stand p l e R s m args below meth c T locs cells slots → ∃ t, Steps p.tables e below ((T.setTop g).pushFrame (.throwing q)) t ∧ Q t
def vx_Run (p : Program) (l : Launch) (e : Env) (R : Room) (s : State) (m : MethodId) (args : Array Value) (below : List Frame) (meth : Method) (c : Code) (H : Heap) (locs : List Loc) (cells slots mc ms : Nat) (g : JFrame) (rest : List Value) (Qa : State → Outcome → State → Prop) (XC : String → State → State → Prop) (free : Addr → Prop) : Prop :=
  ∀ T : State, T.heap = H → Stand p l e R s m args below meth c T locs cells slots →
    (∃ (v : Option Value) (st₀ t T' : State) (L : List Loc), st₀.heap = H ∧ Stand p l e R s m args below meth c T' (locs ++ L) (cells + mc) (slots + ms) ∧ (∀ q ∈ L, free q.base) ∧ T'.heap = t.heap ∧ T'.vm = t.vm ∧ Qa st₀ (.returned v) t ∧
      Goes p e below T g T' { g with pc := g.pc + 3, stack := v.toList ++ rest }) ∨
    (∃ (q : Addr) (st₀ t T' : State) (L : List Loc) (E : String) (ce : Cell), st₀.heap = H ∧ Stand p l e R s m args below meth c T' (locs ++ L) (cells + mc) (slots + ms) ∧ (∀ z ∈ L, free z.base) ∧ T'.heap = t.heap ∧ T'.vm = t.vm ∧ XC E st₀ t ∧ t.heap[q]? = some ce ∧ ce.vm = .none ∧ s.vm.findClass E = some ce.cls ∧
      Steps p.tables e below (T.setTop g) ((T'.setTop { g with stack := rest }).pushFrame (.throwing q)))
def vx_X {S : Type} (px : S → Prop) (B : String → S → State → Prop) (A : Nat → Prop) : String → State → State → Prop := fun E st t => ∃ u : S, px u ∧ B E u t ∧ va_F A st t
section Runs
variable {p : Program} {l : Launch} {e : Env} {R : Room} {s : State} {m : MethodId} {args : Array Value} {below : List Frame} {meth : Method} {c : Code} {H : Heap} {locs : List Loc} {cells slots : Nat}
variable {y : MethodName} {bytes cc : ByteArray} {maxL nL mc ms n index : Nat} {ret : Option FieldType} {ws : List Cond} {rm : Room} {Pc : Array Value → State → Prop} {Qc : Array Value → State → Outcome → State → Prop} {XC : String → State → State → Prop} {free : Addr → Prop} {Ts : List Cond} {own C : String} {b : Addr} {As rest : List Value} {g : JFrame}
theorem vx_callBack (cb : CallB R s args own index y bytes maxL ret ws rm mc ms n) (hM : vx_Met l y ws rm Pc Qc XC mc ms free) (hbl : FrameBlind Pc) : vx_Back l R p e below s args y 3 8 (PreOf R mc ms Pc) (PostOf Qc mc ms free) (vx_Post XC mc ms free) := by
  obtain ⟨hrc, hrs, hfr, hlo, hws, hcw, -, hini, -⟩ := cb
  exact vx_back (bytes := bytes) (maxL := maxL) (ret := ret) hM hbl hrc hrs hfr hlo hws hcw (fun a' U hW => word_at hW (Or.inl (by first | rfl | simp [Cond.onTables, Cond.keeps, Cond.steady])) hini)
theorem vx_runV (S : CallFix p m c cc nL s args Ts own) (hM : vx_Met l y ws rm Pc Qc XC mc ms free) (cw : CallW R s args own C index y bytes maxL ret ws rm mc ms n) (hp : PreV s H C b Pc As)
    (hg : g.method = m) (hn : As.length = n) (hsize : g.locals.size = nL) (hstack : g.stack = As.reverse ++ .ref b :: rest) (hW : 2 * g.monitorRoom + (rest.map fun v => v.category).sum ≤ 8) (hdg : decode cc g.pc = .ok (.invokevirtual index, 3)) (hf : cells + mc ≤ R.cells ∧ slots + ms ≤ R.slots) :
    vx_Run p l e R s m args below meth c H locs cells slots mc ms g rest (Qc (Value.ref b :: As).toArray) XC free := by
  have hK : vx_Back l R p e below s args y 3 8 (PreOf R mc ms Pc) (PostOf Qc mc ms free) (vx_Post XC mc ms free) := vx_callBack cw.1 hM hp.1
  obtain ⟨⟨-, -, -, -, -, -, hcode, -, hy, hlen, hl⟩, hin, hse⟩ := cw
  obtain ⟨hx, hb, hml, ho, -⟩ := S
  obtain ⟨-, ⟨cellB, hcB, hoB, hclB⟩, hPc⟩ := hp
  intro T hT X
  rcases vx_callV X hx (C := C) (bytes := bytes) (maxL := maxL) (ret := ret) ho hl hin hse hcode hy hK (by rw [hT]; exact hcB) hoB hclB hg (hsize.trans hml.symm) (argsL := As) (rest := rest) (fun sig h => hn.trans (hlen sig h)) hstack hW (by rw [hb]; exact hdg)
    (fun vm₁ hW₁ => ⟨hf.1, hf.2, hPc (T.setVm vm₁) hT hW₁⟩) with ⟨v, vm₁, ⟨U', l2, c2, s2⟩, hW₁, X', ⟨g', mk, t, L, e1, e2, hq, h1, hL, h2, h3⟩, st⟩ | ⟨q, vm₁, ⟨U', l2, c2, s2⟩, hW₁, X', ⟨g', mk, t, L, E, ce, e1, e2, hq, hce, hcv, hcl, h1, hL, h2, h3⟩, st⟩
  · dsimp only [Pt.U, Pt.locs, Pt.cells, Pt.slots] at X' e1 e2 h1 h2 h3 st
    subst h1; subst h2; subst h3
    exact Or.inl ⟨v, (T.setVm vm₁).calling g' mk (Value.ref b :: As).toArray, t, U', L, hT, X', hL, e1, e2, hq, st⟩
  · dsimp only [Pt.U, Pt.locs, Pt.cells, Pt.slots] at X' e1 e2 h1 h2 h3 st hcl
    subst h1; subst h2; subst h3
    exact Or.inr ⟨q, (T.setVm vm₁).calling g' mk (Value.ref b :: As).toArray, t, U', L, E, ce, hT, X', hL, e1, e2, hq, hce, hcv, vx_cls hW₁ hcl, st⟩
theorem vx_runS (S : CallFix p m c cc nL s args Ts own) (hM : vx_Met l y ws rm Pc Qc XC mc ms free) (cw : CallB R s args own index y bytes maxL ret ws rm mc ms n ∧ (Cond.static y).before args s = true) (hp : PreS s H Pc As)
    (hg : g.method = m) (hn : As.length = n) (hsize : g.locals.size = nL) (hstack : g.stack = As.reverse ++ rest) (hW : 2 * g.monitorRoom + (rest.map fun v => v.category).sum ≤ 8) (hdg : decode cc g.pc = .ok (.invokestatic index, 3)) (hf : cells + mc ≤ R.cells ∧ slots + ms ≤ R.slots) :
    vx_Run p l e R s m args below meth c H locs cells slots mc ms g rest (Qc As.toArray) XC free := by
  have hK : vx_Back l R p e below s args y 3 8 (PreOf R mc ms Pc) (PostOf Qc mc ms free) (vx_Post XC mc ms free) := vx_callBack cw.1 hM hp.1
  obtain ⟨⟨-, -, -, -, -, -, hcode, hini, hy, hlen, hl⟩, hstt⟩ := cw
  obtain ⟨hx, hb, hml, ho, -⟩ := S
  intro T hT X
  rcases vx_callS X hx (bytes := bytes) (maxL := maxL) (ret := ret) ho hl hstt hini hcode hy hK hg (hsize.trans hml.symm) (argsL := As) (rest := rest) (fun sig h => hn.trans (hlen sig h)) hstack hW (by rw [hb]; exact hdg)
    (fun vm₁ hW₁ => ⟨hf.1, hf.2, hp.2 (T.setVm vm₁) hT hW₁⟩) with ⟨v, vm₁, ⟨U', l2, c2, s2⟩, hW₁, X', ⟨g', mk, t, L, e1, e2, hq, h1, hL, h2, h3⟩, st⟩ | ⟨q, vm₁, ⟨U', l2, c2, s2⟩, hW₁, X', ⟨g', mk, t, L, E, ce, e1, e2, hq, hce, hcv, hcl, h1, hL, h2, h3⟩, st⟩
  · dsimp only [Pt.U, Pt.locs, Pt.cells, Pt.slots] at X' e1 e2 h1 h2 h3 st
    subst h1; subst h2; subst h3
    exact Or.inl ⟨v, (T.setVm vm₁).calling g' mk As.toArray, t, U', L, hT, X', hL, e1, e2, hq, st⟩
  · dsimp only [Pt.U, Pt.locs, Pt.cells, Pt.slots] at X' e1 e2 h1 h2 h3 st hcl
    subst h1; subst h2; subst h3
    exact Or.inr ⟨q, (T.setVm vm₁).calling g' mk As.toArray, t, U', L, E, ce, hT, X', hL, e1, e2, hq, hce, hcv, vx_cls hW₁ hcl, st⟩
end Runs
section Rows
variable {p : Program} {l : Launch} {e : Env} {R : Room} {s : State} {m : MethodId} {args : Array Value} {below : List Frame} {meth : Method} {c : Code} {H : Heap} {locs : List Loc} {cells slots : Nat} {Q : State → Prop}
variable {mc ms : Nat} {free : Addr → Prop} {A0 A1 : Nat → Prop} {H0 : Heap} {a : Array Value} {pc : Nat} {ls : Array Slot} {st0 rest : List Value}
theorem vx_keep {st₀ t T' : State} {L : List Loc} (h0 : st₀.heap = H) (e1 : T'.heap = t.heap) (hS : va_S A0 H0 H locs) (hA : ∀ q, q < H.size → A1 q → A0 q) (hf : ∀ q, free q → A0 q) (hL : ∀ q ∈ L, free q.base) (hF : va_F A1 st₀ t) :
    H.size ≤ T'.heap.size ∧ (∀ q : Nat, q < H.size → ¬ A1 q → T'.heap[q]? = H[q]?) ∧ va_S A0 H0 T'.heap (locs ++ L) := by
  obtain ⟨hz, hk⟩ := hF
  rw [h0] at hz hk
  exact ⟨by rw [e1]; exact hz, fun q h1 h2 => by rw [e1]; exact hk q h1 h2,
    ⟨Nat.le_trans hS.1 (by rw [e1]; exact hz), fun q h1 h2 => by rw [e1, hk q (Nat.lt_of_lt_of_le h1 hS.1) (fun z => h2 (hA q (Nat.lt_of_lt_of_le h1 hS.1) z))]; exact hS.2.1 q h1 h2, fun q hq => by
      rcases List.mem_append.mp hq with h | h
      · exact hS.2.2 q h
      · exact hf _ (hL q h)⟩⟩
theorem vx_calli {S SX : Type} {post : Int32 → S → Prop} {px : SX → Prop} {B : S → State → Prop} {BX : String → SX → State → Prop} {AX : Nat → Prop} (hr : vx_Run p l e R s m args below meth c H locs cells slots mc ms (F0 m pc ls st0) rest (va_Qi post B A1 a) (vx_X px BX AX) free) (hS : va_S A0 H0 H locs) (hA : ∀ q, q < H.size → A1 q → A0 q) (hf : ∀ q, free q → A0 q) (hAX : ∀ q, q < H.size → AX q → A0 q)
    (kx : ∀ (E : String) (ce : Cell) (q9 : Addr) (u : SX) (t : State) (H1 : Heap) (locs1 : List Loc), t.heap = H1 → s.vm.Alike t.vm → px u → BX E u t → H.size ≤ H1.size → (∀ q : Nat, q < H.size → ¬ AX q → H1[q]? = H[q]?) → va_S A0 H0 H1 locs1 → H1[q9]? = some ce → ce.vm = .none → s.vm.findClass E = some ce.cls → vx_W p l e R s m args below meth c H1 locs1 (cells + mc) (slots + ms) Q (F0 m pc ls rest) q9)
    (kk : ∀ (r : Int32) (u : S) (t : State) (H1 : Heap) (locs1 : List Loc), t.heap = H1 → s.vm.Alike t.vm → post r u → B u t → H.size ≤ H1.size → (∀ q : Nat, q < H.size → ¬ A1 q → H1[q]? = H[q]?) → va_S A0 H0 H1 locs1 → W p l e R s m args below meth c H1 locs1 (cells + mc) (slots + ms) Q (F0 m (pc + 3) ls (.int r :: rest))) : W p l e R s m args below meth c H locs cells slots Q (F0 m pc ls st0) := by
  intro T hT X
  rcases hr T hT X with ⟨v, st₀, t, T', L, h0, X', hL, e1, e2, ⟨⟨r, u, hv, hp, hb⟩, hF⟩, st⟩ | ⟨q, st₀, t, T', L, E, ce, h0, X', hL, e1, e2, ⟨u, hp, hb, hF⟩, hce, hcv, hcl, st⟩
  · cases hv
    obtain ⟨k1, k2, k3⟩ := vx_keep h0 e1 hS hA hf hL hF
    obtain ⟨t2, a1, b1⟩ := kk r u t T'.heap (locs ++ L) e1.symm (by rw [← e2]; exact X'.warmed.alike) hp hb k1 k2 k3 T' rfl X'
    exact ⟨t2, st t2 a1, b1⟩
  · obtain ⟨k1, k2, k3⟩ := vx_keep h0 e1 hS hAX hf hL hF
    obtain ⟨t2, a1, b1⟩ := kx E ce q u t T'.heap (locs ++ L) e1.symm (by rw [← e2]; exact X'.warmed.alike) hp hb k1 k2 k3 (by rw [e1]; exact hce) hcv hcl T' rfl X'
    exact ⟨t2, st.trans a1, b1⟩
theorem vx_calll {S SX : Type} {post : Int64 → S → Prop} {px : SX → Prop} {B : S → State → Prop} {BX : String → SX → State → Prop} {AX : Nat → Prop} (hr : vx_Run p l e R s m args below meth c H locs cells slots mc ms (F0 m pc ls st0) rest (va_Ql post B A1 a) (vx_X px BX AX) free) (hS : va_S A0 H0 H locs) (hA : ∀ q, q < H.size → A1 q → A0 q) (hf : ∀ q, free q → A0 q) (hAX : ∀ q, q < H.size → AX q → A0 q)
    (kx : ∀ (E : String) (ce : Cell) (q9 : Addr) (u : SX) (t : State) (H1 : Heap) (locs1 : List Loc), t.heap = H1 → s.vm.Alike t.vm → px u → BX E u t → H.size ≤ H1.size → (∀ q : Nat, q < H.size → ¬ AX q → H1[q]? = H[q]?) → va_S A0 H0 H1 locs1 → H1[q9]? = some ce → ce.vm = .none → s.vm.findClass E = some ce.cls → vx_W p l e R s m args below meth c H1 locs1 (cells + mc) (slots + ms) Q (F0 m pc ls rest) q9)
    (kk : ∀ (r : Int64) (u : S) (t : State) (H1 : Heap) (locs1 : List Loc), t.heap = H1 → s.vm.Alike t.vm → post r u → B u t → H.size ≤ H1.size → (∀ q : Nat, q < H.size → ¬ A1 q → H1[q]? = H[q]?) → va_S A0 H0 H1 locs1 → W p l e R s m args below meth c H1 locs1 (cells + mc) (slots + ms) Q (F0 m (pc + 3) ls (.long r :: rest))) : W p l e R s m args below meth c H locs cells slots Q (F0 m pc ls st0) := by
  intro T hT X
  rcases hr T hT X with ⟨v, st₀, t, T', L, h0, X', hL, e1, e2, ⟨⟨r, u, hv, hp, hb⟩, hF⟩, st⟩ | ⟨q, st₀, t, T', L, E, ce, h0, X', hL, e1, e2, ⟨u, hp, hb, hF⟩, hce, hcv, hcl, st⟩
  · cases hv
    obtain ⟨k1, k2, k3⟩ := vx_keep h0 e1 hS hA hf hL hF
    obtain ⟨t2, a1, b1⟩ := kk r u t T'.heap (locs ++ L) e1.symm (by rw [← e2]; exact X'.warmed.alike) hp hb k1 k2 k3 T' rfl X'
    exact ⟨t2, st t2 a1, b1⟩
  · obtain ⟨k1, k2, k3⟩ := vx_keep h0 e1 hS hAX hf hL hF
    obtain ⟨t2, a1, b1⟩ := kx E ce q u t T'.heap (locs ++ L) e1.symm (by rw [← e2]; exact X'.warmed.alike) hp hb k1 k2 k3 (by rw [e1]; exact hce) hcv hcl T' rfl X'
    exact ⟨t2, st.trans a1, b1⟩
theorem vx_callf {S SX : Type} {post : UInt32 → S → Prop} {px : SX → Prop} {B : S → State → Prop} {BX : String → SX → State → Prop} {AX : Nat → Prop} (hr : vx_Run p l e R s m args below meth c H locs cells slots mc ms (F0 m pc ls st0) rest (va_Qf post B A1 a) (vx_X px BX AX) free) (hS : va_S A0 H0 H locs) (hA : ∀ q, q < H.size → A1 q → A0 q) (hf : ∀ q, free q → A0 q) (hAX : ∀ q, q < H.size → AX q → A0 q)
    (kx : ∀ (E : String) (ce : Cell) (q9 : Addr) (u : SX) (t : State) (H1 : Heap) (locs1 : List Loc), t.heap = H1 → s.vm.Alike t.vm → px u → BX E u t → H.size ≤ H1.size → (∀ q : Nat, q < H.size → ¬ AX q → H1[q]? = H[q]?) → va_S A0 H0 H1 locs1 → H1[q9]? = some ce → ce.vm = .none → s.vm.findClass E = some ce.cls → vx_W p l e R s m args below meth c H1 locs1 (cells + mc) (slots + ms) Q (F0 m pc ls rest) q9)
    (kk : ∀ (r : UInt32) (u : S) (t : State) (H1 : Heap) (locs1 : List Loc), t.heap = H1 → s.vm.Alike t.vm → post r u → B u t → H.size ≤ H1.size → (∀ q : Nat, q < H.size → ¬ A1 q → H1[q]? = H[q]?) → va_S A0 H0 H1 locs1 → W p l e R s m args below meth c H1 locs1 (cells + mc) (slots + ms) Q (F0 m (pc + 3) ls (.float r :: rest))) : W p l e R s m args below meth c H locs cells slots Q (F0 m pc ls st0) := by
  intro T hT X
  rcases hr T hT X with ⟨v, st₀, t, T', L, h0, X', hL, e1, e2, ⟨⟨r, u, hv, hp, hb⟩, hF⟩, st⟩ | ⟨q, st₀, t, T', L, E, ce, h0, X', hL, e1, e2, ⟨u, hp, hb, hF⟩, hce, hcv, hcl, st⟩
  · cases hv
    obtain ⟨k1, k2, k3⟩ := vx_keep h0 e1 hS hA hf hL hF
    obtain ⟨t2, a1, b1⟩ := kk r u t T'.heap (locs ++ L) e1.symm (by rw [← e2]; exact X'.warmed.alike) hp hb k1 k2 k3 T' rfl X'
    exact ⟨t2, st t2 a1, b1⟩
  · obtain ⟨k1, k2, k3⟩ := vx_keep h0 e1 hS hAX hf hL hF
    obtain ⟨t2, a1, b1⟩ := kx E ce q u t T'.heap (locs ++ L) e1.symm (by rw [← e2]; exact X'.warmed.alike) hp hb k1 k2 k3 (by rw [e1]; exact hce) hcv hcl T' rfl X'
    exact ⟨t2, st.trans a1, b1⟩
theorem vx_calld {S SX : Type} {post : UInt64 → S → Prop} {px : SX → Prop} {B : S → State → Prop} {BX : String → SX → State → Prop} {AX : Nat → Prop} (hr : vx_Run p l e R s m args below meth c H locs cells slots mc ms (F0 m pc ls st0) rest (va_Qd post B A1 a) (vx_X px BX AX) free) (hS : va_S A0 H0 H locs) (hA : ∀ q, q < H.size → A1 q → A0 q) (hf : ∀ q, free q → A0 q) (hAX : ∀ q, q < H.size → AX q → A0 q)
    (kx : ∀ (E : String) (ce : Cell) (q9 : Addr) (u : SX) (t : State) (H1 : Heap) (locs1 : List Loc), t.heap = H1 → s.vm.Alike t.vm → px u → BX E u t → H.size ≤ H1.size → (∀ q : Nat, q < H.size → ¬ AX q → H1[q]? = H[q]?) → va_S A0 H0 H1 locs1 → H1[q9]? = some ce → ce.vm = .none → s.vm.findClass E = some ce.cls → vx_W p l e R s m args below meth c H1 locs1 (cells + mc) (slots + ms) Q (F0 m pc ls rest) q9)
    (kk : ∀ (r : UInt64) (u : S) (t : State) (H1 : Heap) (locs1 : List Loc), t.heap = H1 → s.vm.Alike t.vm → post r u → B u t → H.size ≤ H1.size → (∀ q : Nat, q < H.size → ¬ A1 q → H1[q]? = H[q]?) → va_S A0 H0 H1 locs1 → W p l e R s m args below meth c H1 locs1 (cells + mc) (slots + ms) Q (F0 m (pc + 3) ls (.double r :: rest))) : W p l e R s m args below meth c H locs cells slots Q (F0 m pc ls st0) := by
  intro T hT X
  rcases hr T hT X with ⟨v, st₀, t, T', L, h0, X', hL, e1, e2, ⟨⟨r, u, hv, hp, hb⟩, hF⟩, st⟩ | ⟨q, st₀, t, T', L, E, ce, h0, X', hL, e1, e2, ⟨u, hp, hb, hF⟩, hce, hcv, hcl, st⟩
  · cases hv
    obtain ⟨k1, k2, k3⟩ := vx_keep h0 e1 hS hA hf hL hF
    obtain ⟨t2, a1, b1⟩ := kk r u t T'.heap (locs ++ L) e1.symm (by rw [← e2]; exact X'.warmed.alike) hp hb k1 k2 k3 T' rfl X'
    exact ⟨t2, st t2 a1, b1⟩
  · obtain ⟨k1, k2, k3⟩ := vx_keep h0 e1 hS hAX hf hL hF
    obtain ⟨t2, a1, b1⟩ := kx E ce q u t T'.heap (locs ++ L) e1.symm (by rw [← e2]; exact X'.warmed.alike) hp hb k1 k2 k3 (by rw [e1]; exact hce) hcv hcl T' rfl X'
    exact ⟨t2, st.trans a1, b1⟩
theorem vx_callv {S SX : Type} {post : S → Prop} {px : SX → Prop} {B : S → State → Prop} {BX : String → SX → State → Prop} {AX : Nat → Prop} (hr : vx_Run p l e R s m args below meth c H locs cells slots mc ms (F0 m pc ls st0) rest (va_Qv post B A1 a) (vx_X px BX AX) free) (hS : va_S A0 H0 H locs) (hA : ∀ q, q < H.size → A1 q → A0 q) (hf : ∀ q, free q → A0 q) (hAX : ∀ q, q < H.size → AX q → A0 q)
    (kx : ∀ (E : String) (ce : Cell) (q9 : Addr) (u : SX) (t : State) (H1 : Heap) (locs1 : List Loc), t.heap = H1 → s.vm.Alike t.vm → px u → BX E u t → H.size ≤ H1.size → (∀ q : Nat, q < H.size → ¬ AX q → H1[q]? = H[q]?) → va_S A0 H0 H1 locs1 → H1[q9]? = some ce → ce.vm = .none → s.vm.findClass E = some ce.cls → vx_W p l e R s m args below meth c H1 locs1 (cells + mc) (slots + ms) Q (F0 m pc ls rest) q9)
    (kk : ∀ (u : S) (t : State) (H1 : Heap) (locs1 : List Loc), t.heap = H1 → s.vm.Alike t.vm → post u → B u t → H.size ≤ H1.size → (∀ q : Nat, q < H.size → ¬ A1 q → H1[q]? = H[q]?) → va_S A0 H0 H1 locs1 → W p l e R s m args below meth c H1 locs1 (cells + mc) (slots + ms) Q (F0 m (pc + 3) ls (rest))) : W p l e R s m args below meth c H locs cells slots Q (F0 m pc ls st0) := by
  intro T hT X
  rcases hr T hT X with ⟨v, st₀, t, T', L, h0, X', hL, e1, e2, ⟨⟨u, hv, hp, hb⟩, hF⟩, st⟩ | ⟨q, st₀, t, T', L, E, ce, h0, X', hL, e1, e2, ⟨u, hp, hb, hF⟩, hce, hcv, hcl, st⟩
  · cases hv
    obtain ⟨k1, k2, k3⟩ := vx_keep h0 e1 hS hA hf hL hF
    obtain ⟨t2, a1, b1⟩ := kk u t T'.heap (locs ++ L) e1.symm (by rw [← e2]; exact X'.warmed.alike) hp hb k1 k2 k3 T' rfl X'
    exact ⟨t2, st t2 a1, b1⟩
  · obtain ⟨k1, k2, k3⟩ := vx_keep h0 e1 hS hAX hf hL hF
    obtain ⟨t2, a1, b1⟩ := kx E ce q u t T'.heap (locs ++ L) e1.symm (by rw [← e2]; exact X'.warmed.alike) hp hb k1 k2 k3 (by rw [e1]; exact hce) hcv hcl T' rfl X'
    exact ⟨t2, st.trans a1, b1⟩
/-- caught by the row x of this method's table; the rows ahead don't take it -/
theorem vx_catch {own name : String} {E : String} {ce : Cell} {q : Addr} (hown : s.vm.findClass own = some m.cls) (pre : List ExceptionTableEntry) (x : ExceptionTableEntry) (suf : List ExceptionTableEntry) (hsplit : c.exceptionTable.toList = pre ++ x :: suf)
    (hpass : ∀ z ∈ pre, covers z pc = false ∨ (z.catchType ≠ 0 ∧ ∃ nm : String, (Cond.classLink own z.catchType nm).before args s = true ∧ va_Nc E nm s)) (hx : covers x pc = true) (h0 : x.catchType ≠ 0)
    (hlink : (Cond.classLink own x.catchType name).before args s = true) (hcast : (Cond.castable E name).before args s = true) (hcell : H[q]? = some ce) (hv : ce.vm = .none) (hcl : s.vm.findClass E = some ce.cls)
    (kk : W p l e R s m args below meth c H locs cells slots Q (F0 m x.handlerPc ls [.ref q])) : vx_W p l e R s m args below meth c H locs cells slots Q (F0 m pc ls rest) q := by
  intro T hT X
  have hpl : e.platform.magicAccessors = ({} : Platform).magicAccessors := by rw [X.admits.platform]
  obtain ⟨c3, c4, hc3, hc4, hasg⟩ := Cond.castable_spec hcast
  cases Option.some.inj (hc3.symm.trans hcl)
  obtain ⟨c5, hc5, hcl5⟩ := Cond.classLink_spec hown hlink e.platform hpl
  cases Option.some.inj (hc4.symm.trans hc5)
  obtain ⟨vm', X', st⟩ := X.thenCaughtThrough q (g := F0 m pc ls rest) rfl (Steps.refl _) (by rw [hT]; exact hcell) (by rw [hv]; rfl) (by obtain ⟨k9, h9, -⟩ := Vm.findClass_spec hcl; exact ⟨k9, h9⟩) pre x suf hsplit
    (fun z hz => by
      rcases hpass z hz with h | ⟨hz0, nm, hl1, hn1⟩
      · exact Or.inl h
      · obtain ⟨c6, hc6, hcl6⟩ := Cond.classLink_spec hown hl1 e.platform hpl
        obtain ⟨a8, b8, h1, h2, h3⟩ := hn1
        cases Option.some.inj (h1.symm.trans hcl)
        cases Option.some.inj (h2.symm.trans hc6)
        exact Or.inr ⟨hz0, _, hcl6, h3⟩) hx (Or.inr ⟨h0, c4, hcl5, hasg⟩)
  obtain ⟨t, a1, b1⟩ := kk (T.setVm vm') hT X'
  exact ⟨t, st.trans a1, b1⟩
end Rows
section Ends
variable {p : Program} {l : Launch} {e : Env} {R : Room} {s : State} {m : MethodId} {args : Array Value} {below : List Frame} {meth : Method} {c : Code} {H : Heap} {locs : List Loc} {cells slots : Nat} {Q : State → Prop}
variable {mc ms : Nat} {free : Addr → Prop} {A0 A1 : Nat → Prop} {H0 : Heap} {a : Array Value} {ls : Array Slot} {st0 rest : List Value}
variable {Qc : Array Value → State → Outcome → State → Prop} {XC : String → State → State → Prop}
/-- what a body that may throw owes at its end -/
def vx_MQ (below : List Frame) (Qc : Array Value → State → Outcome → State → Prop) (XC : String → State → State → Prop) (a : Array Value) (s : State) (mc ms : Nat) (free : Addr → Prop) : State → Prop := fun t =>
  ∃ o, t.status = .running ∧ Ended t below o ∧ vx_Q Qc XC mc ms free a s o t
theorem vx_ret {g : JFrame} {mc ms : Nat} (k : W p l e R s m args below meth c H locs cells slots (MQ below Qc args s mc ms free) g) : W p l e R s m args below meth c H locs cells slots (vx_MQ below Qc XC args s mc ms free) g := by
  intro T hT X
  obtain ⟨t, a1, o, b1, b2, b3, b4⟩ := k T hT X
  exact ⟨t, a1, o, b1, b2, Or.inl ⟨b3, b4⟩⟩
/-- not caught here: it goes on to the caller -/
theorem vx_widen {g : JFrame} {q : Addr} {k n : Nat} (h1 : cells ≤ k) (h2 : slots ≤ n) (kk : vx_W p l e R s m args below meth c H locs k n Q g q) : vx_W p l e R s m args below meth c H locs cells slots Q g q := fun T hT X => kk T hT (stand_widen X h1 h2)
theorem vx_out {pc : Nat} {E : String} {ce : Cell} {q : Addr} {mc ms : Nat} (hout : ∀ x ∈ c.exceptionTable.toList, covers x pc = false) (hlocks : meth.locks = false) (hcell : H[q]? = some ce) (hv : ce.vm = .none) (hcl : s.vm.findClass E = some ce.cls)
    (hx : ∀ t : State, t.heap = H → s.vm.Alike t.vm → XC E s t) (hf : ∀ z ∈ locs, free z.base) (hc : cells ≤ mc) (hs : slots ≤ ms) :
    vx_W p l e R s m args below meth c H locs cells slots (vx_MQ below Qc XC args s mc ms free) (F0 m pc ls rest) q := by
  intro T hT X
  obtain ⟨st1, hrun, hend, hW, hsm⟩ := X.leaveThrown q (g := F0 m pc ls rest) rfl rfl rfl hout hlocks
  have hcell9 : (T.setFrames (.throwing q :: below)).heap[q]? = some ce := by
    show T.heap[q]? = some ce
    rw [hT]; exact hcell
  exact ⟨_, st1, .threw q, hrun, hend, Or.inr ⟨q, rfl, E, ce, locs, hx _ hT hW.alike, hcell9, hv, hcl, hW, hsm.mono hc hs, hf⟩⟩
theorem vx_frame {U : State} {k n : Nat} (h : s.sameButNew ({ U with vm := s.vm } : State) locs k n) : s.heap.size ≤ U.heap.size ∧ ∀ q : Nat, q < s.heap.size → (∀ z ∈ locs, z.base ≠ q) → U.heap[q]? = s.heap[q]? := by
  obtain ⟨-, h2, -, -, -, h6⟩ := h
  refine ⟨h2, fun q hq hz => ?_⟩
  obtain ⟨c9, e1, e2, e3, e4⟩ := h6 q _ (Array.getElem?_eq_getElem hq)
  have hs : c9.slots = (s.heap[q]).slots := Array.ext_getElem? fun i => e4 i fun hm => hz _ hm rfl
  have h9 : c9 = s.heap[q] := by
    rw [hs] at e2
    exact e2
  have e5 : U.heap[q]? = some c9 := e1
  rw [e5, h9, Array.getElem?_eq_getElem hq]
/-- the words of a throw but the four that speak of the heap -/
def vx_no (w : Cond) : Bool := decide (w ≠ .isRef (.static Bundle.tN "UNASSIGNED_STACK" Bundle.steD)) && decide (w ≠ .isRef (.static Bundle.tN "SUPPRESSED_SENTINEL" Bundle.listD)) && decide (w ≠ .laysStatic Bundle.tN "UNASSIGNED_STACK" Bundle.steD) && decide (w ≠ .laysStatic Bundle.tN "SUPPRESSED_SENTINEL" Bundle.listD)
def vx_at0 (own : String) (ic : Nat) (X : String) (names : List String) : List Cond := (Bundle.ownAtoms0 own ic X names).filter vx_no
def vx_atS (own : String) (ic : Nat) (X : String) (names : List String) : List Cond := (Bundle.ownAtoms own ic X names).filter vx_no
/-- a word that the tables alone decide, or a good one -/
def vx_ot (w : Cond) : Bool := w.onTables || goodWord w
theorem vx_ot_at {args a' : Array Value} {s U : State} {w : Cond} (hW : s.WarmedH U.vm) (hvm : s.vm = U.vm) (hg : vx_ot w = true) (h : w.before args s = true) : w.before a' U = true := by
  simp only [vx_ot, Bool.or_eq_true] at hg
  rcases hg with hg | hg
  · exact va_tabs hg hvm h
  · exact word_at hW (good_of_word hg) h
/-- a list's words: the good ones out of the method's own list, the others by premises of their own -/
theorem vx_hat {args : Array Value} {s : State} {L B : List Cond} (h1 : ∀ w ∈ L.filter goodWord, w.before args s = true) (h2 : ∀ w ∈ L.filter (fun w => !goodWord w), w ∈ B) (h3 : ∀ w ∈ B, w.before args s = true) : ∀ w ∈ L, w.before args s = true := by
  intro w hw
  by_cases g : goodWord w = true
  · exact h1 w (List.mem_filter.mpr ⟨hw, g⟩)
  · refine h3 w (h2 w (List.mem_filter.mpr ⟨hw, ?_⟩))
    show (!goodWord w) = true
    cases hgw : goodWord w
    · rfl
    · exact absurd hgw g
theorem vx_c {args : Array Value} {s : State} {w : Cond} {B : List Cond} (h : w.before args s = true) (t : ∀ w ∈ B, w.before args s = true) : ∀ w' ∈ w :: B, w'.before args s = true := fun w' h' => (List.mem_cons.mp h').elim (fun e => by rw [e]; exact h) (t w')
theorem vx_n {args : Array Value} {s : State} : ∀ w ∈ ([] : List Cond), w.before args s = true := fun _ h => nomatch h
theorem vx_own {args : Array Value} {s : State} {L : List Cond} (h1 : ∀ w ∈ L.filter vx_no, w.before args s = true)
    (hU : (Cond.isRef (.static Bundle.tN "UNASSIGNED_STACK" Bundle.steD)).before args s = true) (hN : (Cond.isRef (.static Bundle.tN "SUPPRESSED_SENTINEL" Bundle.listD)).before args s = true)
    (lU : (Cond.laysStatic Bundle.tN "UNASSIGNED_STACK" Bundle.steD).before args s = true) (lN : (Cond.laysStatic Bundle.tN "SUPPRESSED_SENTINEL" Bundle.listD).before args s = true) : ∀ w ∈ L, w.before args s = true := by
  intro w hw
  by_cases e1 : w = .isRef (.static Bundle.tN "UNASSIGNED_STACK" Bundle.steD)
  · rw [e1]; exact hU
  · by_cases e2 : w = .isRef (.static Bundle.tN "SUPPRESSED_SENTINEL" Bundle.listD)
    · rw [e2]; exact hN
    · by_cases e3 : w = .laysStatic Bundle.tN "UNASSIGNED_STACK" Bundle.steD
      · rw [e3]; exact lU
      · by_cases e4 : w = .laysStatic Bundle.tN "SUPPRESSED_SENTINEL" Bundle.listD
        · rw [e4]; exact lN
        · exact h1 w (List.mem_filter.mpr ⟨hw, by unfold vx_no; rw [decide_eq_true e1, decide_eq_true e2, decide_eq_true e3, decide_eq_true e4]; rfl⟩)
/-- where a static field lies, its class's statics cell in H -/
def vx_L (C n d : String) (A : Nat → Prop) (U : State) (H : Heap) : Prop := ∃ (c : ClassId) (k : Class) (i : Nat) (f : Field) (a : Nat) (cell : Cell), U.vm.findClass C = some c ∧ U.fieldFound? C n d = some (c, k, i, f) ∧ f.isStatic = true ∧ k.statics = some a ∧ H[a]? = some cell ∧ cell.vm.isStatics = true ∧ cell.cls = c ∧ f.slot < cell.slots.size ∧ k.staticTypes[f.slot]? = some f.type ∧ ¬ A a
theorem vx_L.moved {C n d : String} {A : Nat → Prop} {u U : State} {H : Heap} (hvm : u.vm.Alike U.vm) (h : vx_L C n d A u H) : vx_L C n d A U H := by
  obtain ⟨c, k, i, f, a, cell, h1, h2, h3, h4, h5, h6, h7, h8, h9, h10⟩ := h
  obtain ⟨k', hi', he⟩ := State.fieldFound?_setVm hvm h2
  exact ⟨c, k', i, f, a, cell, by rw [hvm.findClass]; exact h1, hi', h3, by rw [he]; exact h4, h5, h6, h7, h8, by rw [he]; exact h9, h10⟩
theorem vx_L.kept {C n d : String} {A : Nat → Prop} {U : State} {H H1 : Heap} (h : vx_L C n d A U H) (hq : ∀ a : Nat, a < H.size → ¬ A a → H1[a]? = H[a]?) : vx_L C n d A U H1 := by
  obtain ⟨c, k, i, f, a, cell, h1, h2, h3, h4, h5, h6, h7, h8, h9, h10⟩ := h
  exact ⟨c, k, i, f, a, cell, h1, h2, h3, h4, by rw [hq a (Array.getElem?_eq_some_iff.mp h5).1 h10]; exact h5, h6, h7, h8, h9, h10⟩
theorem vx_L.narrow {C n d : String} {A B : Nat → Prop} {U : State} {H : Heap} (h : vx_L C n d A U H) (hAB : ∀ q, B q → A q) : vx_L C n d B U H := by
  obtain ⟨c, k, i, f, a, cell, h1, h2, h3, h4, h5, h6, h7, h8, h9, h10⟩ := h
  exact ⟨c, k, i, f, a, cell, h1, h2, h3, h4, h5, h6, h7, h8, h9, fun z => h10 (hAB _ z)⟩
theorem vx_L.word {C n d : String} {A : Nat → Prop} {s : State} {args : Array Value} (h : vx_L C n d A s s.heap) : (Cond.laysStatic C n d).before args s = true := by
  obtain ⟨c, k, i, f, a, cell, h1, h2, h3, h4, h5, h6, h7, h8, h9, -⟩ := h
  show (Cond.laysStatic C n d).holds args s none s [] = true
  exact Cond.laysStatic_of h1 h2 h3 h4 h5 h6 h7 h8 h9
/-- .. and what it holds: null or some reference -/
def vx_Zq (C n d : String) (A : Nat → Prop) (U : State) (H : Heap) : Prop := va_Zq C n d A U H ∧ vx_L C n d A U H
theorem vx_Zq.moved {C n d : String} {A : Nat → Prop} {u U : State} {H : Heap} (hvm : u.vm.Alike U.vm) (h : vx_Zq C n d A u H) : vx_Zq C n d A U H := ⟨va_Zq.moved hvm h.1, vx_L.moved hvm h.2⟩
theorem vx_Zq.kept {C n d : String} {A : Nat → Prop} {U : State} {H H1 : Heap} (h : vx_Zq C n d A U H) (hq : ∀ a : Nat, a < H.size → ¬ A a → H1[a]? = H[a]?) : vx_Zq C n d A U H1 := ⟨va_Zq.kept h.1 hq, vx_L.kept h.2 hq⟩
theorem vx_Zq.narrow {C n d : String} {A B : Nat → Prop} {U : State} {H : Heap} (h : vx_Zq C n d A U H) (hAB : ∀ q, B q → A q) : vx_Zq C n d B U H := ⟨va_Zq.narrow h.1 hAB, vx_L.narrow h.2 hAB⟩
theorem vx_Zqof {args : Array Value} {s : State} {C n d : String} {A : Nat → Prop} (hl : (Cond.laysStatic C n d).before args s = true) (hini : (Cond.initialized C).before args s = true) (h : (Cond.isRef (.static C n d)).before args s = true) (hA : ∀ a : Nat, a < s.heap.size → ¬ A a) : vx_Zq C n d A s s.heap := by
  refine ⟨va_Zqof hl hini h hA, ?_⟩
  obtain ⟨c, k, i, f, a, cell, h1, h2, h3, h4, h5, h6, h7, h8, h9⟩ := Cond.laysStatic_spec hl
  exact ⟨c, k, i, f, a, cell, h1, h2, h3, h4, h5, h6, h7, h8, h9, hA a (Array.getElem?_eq_some_iff.mp h5).1⟩
theorem vx_isRef {C n d : String} {v : Value} {A : Nat → Prop} {s : State} {args : Array Value} (h : va_Z C n d v A s s.heap) (hv : v.isRef = true) : (Cond.isRef (.static C n d)).before args s = true := by
  obtain ⟨cf, kf, fi, f, a, cell, h1, h2, h3, h4, h5, h6, h7, -⟩ := h
  have he : (Term.static C n d).eval args s none [] s = some v := by
    simp [Term.eval, State.fieldNamed?, h1, h2, h4, h5, h6, h7]
  simp only [Cond.before, Cond.holds, Cond.value, he]
  cases v <;> simp_all [Value.isRef]
theorem vx_isRefq {C n d : String} {A : Nat → Prop} {s : State} {args : Array Value} (h : va_Zq C n d A s s.heap) : (Cond.isRef (.static C n d)).before args s = true := by
  rcases h with h | ⟨t, h⟩
  · exact vx_isRef h rfl
  · exact vx_isRef h rfl
/-- the same frame, seen from here: as if the method were called anew in this heap -/
theorem vx_rebase {T : State} (X : Stand p l e R s m args below meth c T locs cells slots) {R' : Room} (hf : R'.frames ≤ R.frames) (hl : R'.locals ≤ R.locals) (hc : cells + R'.cells ≤ R.cells) (hs : slots + R'.slots ≤ R.slots) :
    Stand p l e R' ((T.setVm s.vm).setFrames (.invoking m args :: below)) m args below meth c T [] 0 0 := by
  have htop : (T.setVm s.vm).topJava?.isSome := X.here.top
  have hF : ((T.setVm s.vm).setFrames (.invoking m args :: below)).frames = .invoking m args :: below := State.frames_setFrames _ (State.cur_lt_of_top htop)
  obtain ⟨g₀, hg0⟩ := Option.isSome_iff_exists.mp htop
  obtain ⟨r, hr⟩ := State.topJava?_eq_some.mp hg0
  have hl9 : e.platform.stackLimits (T.setVm s.vm).me = e.platform.stackLimits s.me := X.limits
  have hb9 : (T.setVm s.vm).me.stackBytes = s.me.stackBytes := X.bytes
  refine ⟨X.admits, X.cas, X.clock, hF, ?_, X.hears, X.method, X.code, X.here, X.tail, X.warmed, ?_, ?_, ?_⟩
  · have h := X.room
    have hU : ((T.setVm s.vm).setFrames (.invoking m args :: below)).localsInUse = s.localsInUse := by
      rw [State.localsInUse_invoking hF (meth := meth) (c := c) X.method X.code, State.localsInUse_invoking X.frames X.method X.code]
    simp only [State.hasRoom, Bool.and_eq_true, decide_eq_true_eq] at h ⊢
    obtain ⟨⟨⟨⟨h1, h2, h3, h4, h5, h6⟩, h7⟩, h8⟩, h9⟩ := h
    rw [X.frames, List.length_cons] at h2 h3
    have q1 := X.heapSize
    have q2 := X.used
    simp only [hF, hU, List.length_cons, State.stackLimits_setFrames, State.stackBytes_setFrames, hl9, hb9]
    refine ⟨⟨⟨⟨by omega, by omega, by omega, by omega, by omega, h6⟩, ?_⟩, ?_⟩, X.book⟩
    · show T.heap.size + R'.cells ≤ e.platform.maxCells
      omega
    · show T.slotsUsed + R'.slots ≤ e.platform.maxSlots
      omega
  · rw [State.stackLimits_setFrames]; rfl
  · rw [State.stackBytes_setFrames]; rfl
  · refine ⟨?_, Nat.le_refl _, Nat.le_refl _, ?_, ?_, fun a c9 h9 => ⟨c9, h9, rfl, rfl, fun _ _ => rfl⟩⟩
    · obtain ⟨t, ht, -⟩ := State.frames_cons hr
      show T.setVm s.vm = { ((T.setVm s.vm).setFrames (.invoking m args :: below)).setFrames (T.setVm s.vm).frames with heap := T.heap, slotsUsed := T.slotsUsed }
      rw [State.setFrames_setFrames, State.setFrames_self ht]
      rfl
    · show T.slotsUsed = T.slotsUsed + ((T.heap.toList.drop T.heap.size).map (·.slots.size)).sum
      rw [List.drop_eq_nil_of_le (Nat.le_of_eq Array.length_toList)]
      rfl
    · show ((T.heap.toList.drop T.heap.size).map (·.slots.size)).sum ≤ 0
      rw [List.drop_eq_nil_of_le (Nat.le_of_eq Array.length_toList)]
      exact Nat.le_refl _
/-- 'throw new E()': new; dup; invokespecial; athrow -/
theorem vx_throw0 {cc : ByteArray} {pc : Nat} (hexec : p.tables.exec = Jvm.exec) (hb : c.code = cc) (hl : l.stackTraces = false) {own cls : String} {names : List String} {ik ic mc ms : Nat} {A : Nat → Prop}
    (hown : s.vm.findClass own = some m.cls) (hcls : Bundle.fit cls = true) (hnames : ∀ n ∈ names, Bundle.fit n = true)
    (hk : (Cond.classLink own ik cls).before args s = true) (hini : (Cond.initialized cls).before args s = true) (hat : ∀ w ∈ vx_at0 own ic cls names, w.before args s = true)
    (hgood : ∀ w ∈ Cond.classLink own ik cls :: Cond.initialized cls :: vx_at0 own ic cls names, vx_ot w = true)
    (hU : vx_Zq Bundle.tN "UNASSIGNED_STACK" Bundle.steD A s s.heap) (hN : vx_Zq Bundle.tN "SUPPRESSED_SENTINEL" Bundle.listD A s s.heap) (hS : va_S A s.heap H locs) (hsize : ls.size = c.maxLocals)
    (d0 : decode cc pc = .ok (.new ik, 3)) (d3 : decode cc (pc + 3) = .ok (.dup, 1)) (d4 : decode cc (pc + 4) = .ok (.invokespecial ic, 3)) (d7 : decode cc (pc + 7) = .ok (.athrow, 1))
    (hout : ∀ x ∈ c.exceptionTable.toList, covers x (pc + 7) = false)
    (hRframes : names.length + 3 < R.frames) (hRlocals : (rest.map fun v => v.category).sum + (13 * (names.length + 1) + 42) ≤ R.locals) (hRcells : cells + 1 ≤ R.cells) (hRslots : slots + 6 ≤ R.slots) (hlocks : meth.locks = false)
    (hx : ∀ t : State, s.vm.Alike t.vm → H.size ≤ t.heap.size → (∀ q : Nat, q < H.size → t.heap[q]? = H[q]?) → XC cls s t)
    (hf : ∀ z ∈ locs, free z.base) (hc : cells + 1 ≤ mc) (hs : slots + 6 ≤ ms) :
    W p l e R s m args below meth c H locs cells slots (vx_MQ below Qc XC args s mc ms free) (F0 m pc ls rest) := by
  intro T hT X
  have htr : e.platform.stackTraces = false := (show e.platform.stackTraces = l.stackTraces by rw [X.admits.platform]).trans hl
  have Y := vx_rebase X (R' := { frames := R.frames, locals := R.locals, cells := 1, slots := 6 }) (Nat.le_refl _) (Nat.le_refl _) hRcells hRslots
  obtain ⟨s', hA⟩ : ∃ z, z = (T.setVm s.vm).setFrames (.invoking m args :: below) := ⟨_, rfl⟩
  rw [← hA] at Y
  have hvm : s'.vm = s.vm := by rw [hA]; rfl
  have hhp : s'.heap = H := by rw [hA]; exact hT
  have hW0 : s.WarmedH s'.vm := by rw [hvm]; exact State.WarmedH.refl s
  have hat' : ∀ w ∈ vx_at0 own ic cls names, w.before args s' = true := fun w hw => vx_ot_at hW0 hvm.symm (hgood w (List.mem_cons_of_mem _ (List.mem_cons_of_mem _ hw))) (hat w hw)
  have hk' : (Cond.classLink own ik cls).before args s' = true := vx_ot_at hW0 hvm.symm (hgood _ List.mem_cons_self) hk
  have hini' : (Cond.initialized cls).before args s' = true := vx_ot_at hW0 hvm.symm (hgood _ (List.mem_cons_of_mem _ List.mem_cons_self)) hini
  have hU' : vx_Zq Bundle.tN "UNASSIGNED_STACK" Bundle.steD A s' s'.heap := by rw [hhp]; exact vx_Zq.moved hW0.alike (hU.kept hS.2.1)
  have hN' : vx_Zq Bundle.tN "SUPPRESSED_SENTINEL" Bundle.listD A s' s'.heap := by rw [hhp]; exact vx_Zq.moved hW0.alike (hN.kept hS.2.1)
  have h : ∀ w ∈ Bundle.ownAtoms0 own ic cls names, w.before args s' = true := vx_own hat' (vx_isRefq hU'.1) (vx_isRefq hN'.1) hU'.2.word hN'.2.word
  have hown' : s'.vm.findClass own = some m.cls := by rw [hvm]; exact hown
  have hins : (Cond.instantiable cls 6).before args s' = true := h _ (by simp [Bundle.ownAtoms0])
  obtain ⟨vm₁, cX, kX, hfX, hkX, -, -, X₁, st1⟩ := Y.newCold hexec (own := own) (C := cls) (index := ik) (n := 6) hown' hk' hins hini'
    (g := F0 m pc ls rest) rfl (by rw [hb]; exact d0) (Nat.le_refl _) (Nat.le_refl _)
  generalize hT1 : (T.setVm vm₁).pushCell { cls := cX, slots := kX.instanceTypes.map defaultValue, vm := .none } = T1 at X₁ st1
  have hcat : (Value.ref T.heap.size).category = 1 := rfl
  have hcellA : T1.heap[T.heap.size]? = some (freshCell cX kX) := by rw [← hT1]; exact State.heap_pushCell_size _ _
  have d3' : decode c.code (pc + 3) = .ok (.dup, 1) := by rw [hb]; exact d3
  obtain ⟨U, hsteps, hrun, hend, hW, hsame, ce, hce, hO⟩ := X₁.ctorThrow0 hexec htr (own := own) (cls := cls) (names := names) (ic := ic) hown' hcls hnames h (fun x hx => nomatch hx) hfX hkX hcellA (by rw [hhp, hT]; exact Nat.le_refl _)
    (g := { method := m, pc := pc + 4, locals := ls, stack := .ref T.heap.size :: .ref T.heap.size :: rest, locked := none }) rfl hsize rfl rfl (rest := rest) rfl
    (by rw [hb]; exact d4) (by rw [hb]; exact d7) hout hRframes (by simp only [List.map_cons, List.sum_cons, hcat]; omega) hlocks
  obtain ⟨f1, f2⟩ := vx_frame hsame
  rw [hhp] at f1 f2
  have hWs : s.WarmedH U.vm := State.WarmedH.trans hW0 hW
  have hcl : s.vm.findClass cls = some ce.cls := by
    have h9 := hO.cls
    rw [hvm] at h9
    exact h9
  have hall : s.sameButNew ({ U with vm := s.vm } : State) locs mc ms := by
    subst hA
    obtain ⟨e1, e2⟩ := hsame
    rw [State.setFrames_setFrames] at e1
    have h2 : (T.setVm s.vm).sameButNew ({ U with vm := s.vm } : State) [] (0 + 1) (0 + 6) := ⟨e1, e2⟩
    have h3 := X.same.trans h2
    rw [List.append_nil] at h3
    exact h3.mono hc hs
  refine ⟨U, ?_, .threw T.heap.size, hrun, hend, Or.inr ⟨T.heap.size, rfl, cls, ce, locs, hx U hWs.alike f1 (fun q hq => f2 q hq (fun z hz => nomatch hz)), hce, hO.vm, hcl, hWs, hall, hf⟩⟩
  refine st1 _ ?_
  show Steps p.tables e below (T1.setTop { method := m, pc := pc + 3, locals := ls, stack := .ref T.heap.size :: rest, locked := none }) _
  jvm_step X₁.here [X₁.here.top, hexec, d3', Value.category]
  exact hsteps
/-- 'throw new E("text")': new; dup; ldc; invokespecial; athrow -/
theorem vx_throwS {cc : ByteArray} {pc : Nat} (hexec : p.tables.exec = Jvm.exec) (hb : c.code = cc) (hl : l.stackTraces = false) {own cls text : String} {names : List String} {ik is ic mc ms sa : Nat} {A : Nat → Prop}
    (hown : s.vm.findClass own = some m.cls) (hcls : Bundle.fit cls = true) (hnames : ∀ n ∈ names, Bundle.fit n = true)
    (hk : (Cond.classLink own ik cls).before args s = true) (hini : (Cond.initialized cls).before args s = true) (hstr : vk_R own is text sa s) (hat : ∀ w ∈ vx_atS own ic cls names, w.before args s = true)
    (hgood : ∀ w ∈ Cond.classLink own ik cls :: Cond.initialized cls :: vx_atS own ic cls names, vx_ot w = true)
    (hU : vx_Zq Bundle.tN "UNASSIGNED_STACK" Bundle.steD A s s.heap) (hN : vx_Zq Bundle.tN "SUPPRESSED_SENTINEL" Bundle.listD A s s.heap) (hS : va_S A s.heap H locs) (hsize : ls.size = c.maxLocals)
    (d0 : decode cc pc = .ok (.new ik, 3)) (d3 : decode cc (pc + 3) = .ok (.dup, 1)) (d4 : decode cc (pc + 4) = .ok (.ldc is, 2)) (d6 : decode cc (pc + 6) = .ok (.invokespecial ic, 3)) (d9 : decode cc (pc + 9) = .ok (.athrow, 1))
    (hout : ∀ x ∈ c.exceptionTable.toList, covers x (pc + 9) = false)
    (hRframes : names.length + 3 < R.frames) (hRlocals : (rest.map fun v => v.category).sum + (13 * (names.length + 1) + 43) ≤ R.locals) (hRcells : cells + 1 ≤ R.cells) (hRslots : slots + 6 ≤ R.slots) (hlocks : meth.locks = false)
    (hx : ∀ t : State, s.vm.Alike t.vm → H.size ≤ t.heap.size → (∀ q : Nat, q < H.size → t.heap[q]? = H[q]?) → XC cls s t)
    (hf : ∀ z ∈ locs, free z.base) (hc : cells + 1 ≤ mc) (hs : slots + 6 ≤ ms) :
    W p l e R s m args below meth c H locs cells slots (vx_MQ below Qc XC args s mc ms free) (F0 m pc ls rest) := by
  intro T hT X
  have htr : e.platform.stackTraces = false := (show e.platform.stackTraces = l.stackTraces by rw [X.admits.platform]).trans hl
  have Y := vx_rebase X (R' := { frames := R.frames, locals := R.locals, cells := 1, slots := 6 }) (Nat.le_refl _) (Nat.le_refl _) hRcells hRslots
  obtain ⟨s', hA⟩ : ∃ z, z = (T.setVm s.vm).setFrames (.invoking m args :: below) := ⟨_, rfl⟩
  rw [← hA] at Y
  have hvm : s'.vm = s.vm := by rw [hA]; rfl
  have hhp : s'.heap = H := by rw [hA]; exact hT
  have hW0 : s.WarmedH s'.vm := by rw [hvm]; exact State.WarmedH.refl s
  have hat' : ∀ w ∈ vx_atS own ic cls names, w.before args s' = true := fun w hw => vx_ot_at hW0 hvm.symm (hgood w (List.mem_cons_of_mem _ (List.mem_cons_of_mem _ hw))) (hat w hw)
  have hk' : (Cond.classLink own ik cls).before args s' = true := vx_ot_at hW0 hvm.symm (hgood _ List.mem_cons_self) hk
  have hini' : (Cond.initialized cls).before args s' = true := vx_ot_at hW0 hvm.symm (hgood _ (List.mem_cons_of_mem _ List.mem_cons_self)) hini
  have hU' : vx_Zq Bundle.tN "UNASSIGNED_STACK" Bundle.steD A s' s'.heap := by rw [hhp]; exact vx_Zq.moved hW0.alike (hU.kept hS.2.1)
  have hN' : vx_Zq Bundle.tN "SUPPRESSED_SENTINEL" Bundle.listD A s' s'.heap := by rw [hhp]; exact vx_Zq.moved hW0.alike (hN.kept hS.2.1)
  have h : ∀ w ∈ Bundle.ownAtoms own ic cls names, w.before args s' = true := vx_own hat' (vx_isRefq hU'.1) (vx_isRefq hN'.1) hU'.2.word hN'.2.word
  have hown' : s'.vm.findClass own = some m.cls := by rw [hvm]; exact hown
  have hins : (Cond.instantiable cls 6).before args s' = true := h _ (by simp [Bundle.ownAtoms])
  obtain ⟨vm₁, cX, kX, hfX, hkX, -, -, X₁, st1⟩ := Y.newCold hexec (own := own) (C := cls) (index := ik) (n := 6) hown' hk' hins hini'
    (g := F0 m pc ls rest) rfl (by rw [hb]; exact d0) (Nat.le_refl _) (Nat.le_refl _)
  generalize hT1 : (T.setVm vm₁).pushCell { cls := cX, slots := kX.instanceTypes.map defaultValue, vm := .none } = T1 at X₁ st1
  have hcat : (Value.ref T.heap.size).category = 1 := rfl
  have hcellA : T1.heap[T.heap.size]? = some (freshCell cX kX) := by rw [← hT1]; exact State.heap_pushCell_size _ _
  have d3' : decode c.code (pc + 3) = .ok (.dup, 1) := by rw [hb]; exact d3
  have d4' : decode c.code (pc + 4) = .ok (.ldc is, 2) := by rw [hb]; exact d4
  have hstr' : vk_R own is text sa s' := vk_R.warm hW0 hstr
  obtain ⟨U, hsteps, hrun, hend, hW, hsame, ce, hce, hO⟩ := X₁.ctorThrowS hexec htr (own := own) (cls := cls) (names := names) (ic := ic) hown' hcls hnames h (fun x hx => nomatch hx) hfX hkX hcellA (by rw [hhp, hT]; exact Nat.le_refl _) (msg := .ref sa) rfl
    (g := { method := m, pc := pc + 6, locals := ls, stack := .ref sa :: .ref T.heap.size :: .ref T.heap.size :: rest, locked := none }) rfl hsize rfl rfl (rest := rest) rfl
    (by rw [hb]; exact d6) (by rw [hb]; exact d9) hout hRframes (by simp only [List.map_cons, List.sum_cons, hcat]; omega) hlocks
  obtain ⟨f1, f2⟩ := vx_frame hsame
  rw [hhp] at f1 f2
  have hWs : s.WarmedH U.vm := State.WarmedH.trans hW0 hW
  have hcl : s.vm.findClass cls = some ce.cls := by
    have h9 := hO.cls
    rw [hvm] at h9
    exact h9
  have hall : s.sameButNew ({ U with vm := s.vm } : State) locs mc ms := by
    subst hA
    obtain ⟨e1, e2⟩ := hsame
    rw [State.setFrames_setFrames] at e1
    have h2 : (T.setVm s.vm).sameButNew ({ U with vm := s.vm } : State) [] (0 + 1) (0 + 6) := ⟨e1, e2⟩
    have h3 := X.same.trans h2
    rw [List.append_nil] at h3
    exact h3.mono hc hs
  refine ⟨U, ?_, .threw T.heap.size, hrun, hend, Or.inr ⟨T.heap.size, rfl, cls, ce, locs, hx U hWs.alike f1 (fun q hq => f2 q hq (fun z hz => nomatch hz)), hce, hO.vm, hcl, hWs, hall, hf⟩⟩
  refine st1 _ ?_
  show Steps p.tables e below (T1.setTop { method := m, pc := pc + 3, locals := ls, stack := .ref T.heap.size :: rest, locked := none }) _
  jvm_step X₁.here [X₁.here.top, hexec, d3', Value.category]
  exact X₁.ldcString hexec (own := own) (text := text) (index := is) (a := sa) hown' hstr'.1 hstr'.2
    (g := { method := m, pc := pc + 4, locals := ls, stack := .ref T.heap.size :: .ref T.heap.size :: rest, locked := none }) rfl d4' _ hsteps
/-- 'throw new E("text")', the text by a wide index -/
theorem vx_throwSW {cc : ByteArray} {pc : Nat} (hexec : p.tables.exec = Jvm.exec) (hb : c.code = cc) (hl : l.stackTraces = false) {own cls text : String} {names : List String} {ik is ic mc ms sa : Nat} {A : Nat → Prop}
    (hown : s.vm.findClass own = some m.cls) (hcls : Bundle.fit cls = true) (hnames : ∀ n ∈ names, Bundle.fit n = true)
    (hk : (Cond.classLink own ik cls).before args s = true) (hini : (Cond.initialized cls).before args s = true) (hstr : vk_R own is text sa s) (hat : ∀ w ∈ vx_atS own ic cls names, w.before args s = true)
    (hgood : ∀ w ∈ Cond.classLink own ik cls :: Cond.initialized cls :: vx_atS own ic cls names, vx_ot w = true)
    (hU : vx_Zq Bundle.tN "UNASSIGNED_STACK" Bundle.steD A s s.heap) (hN : vx_Zq Bundle.tN "SUPPRESSED_SENTINEL" Bundle.listD A s s.heap) (hS : va_S A s.heap H locs) (hsize : ls.size = c.maxLocals)
    (d0 : decode cc pc = .ok (.new ik, 3)) (d3 : decode cc (pc + 3) = .ok (.dup, 1)) (d4 : decode cc (pc + 4) = .ok (.ldc_w is, 3)) (d7 : decode cc (pc + 7) = .ok (.invokespecial ic, 3)) (d10 : decode cc (pc + 10) = .ok (.athrow, 1))
    (hout : ∀ x ∈ c.exceptionTable.toList, covers x (pc + 10) = false)
    (hRframes : names.length + 3 < R.frames) (hRlocals : (rest.map fun v => v.category).sum + (13 * (names.length + 1) + 43) ≤ R.locals) (hRcells : cells + 1 ≤ R.cells) (hRslots : slots + 6 ≤ R.slots) (hlocks : meth.locks = false)
    (hx : ∀ t : State, s.vm.Alike t.vm → H.size ≤ t.heap.size → (∀ q : Nat, q < H.size → t.heap[q]? = H[q]?) → XC cls s t)
    (hf : ∀ z ∈ locs, free z.base) (hc : cells + 1 ≤ mc) (hs : slots + 6 ≤ ms) :
    W p l e R s m args below meth c H locs cells slots (vx_MQ below Qc XC args s mc ms free) (F0 m pc ls rest) := by
  intro T hT X
  have htr : e.platform.stackTraces = false := (show e.platform.stackTraces = l.stackTraces by rw [X.admits.platform]).trans hl
  have Y := vx_rebase X (R' := { frames := R.frames, locals := R.locals, cells := 1, slots := 6 }) (Nat.le_refl _) (Nat.le_refl _) hRcells hRslots
  obtain ⟨s', hA⟩ : ∃ z, z = (T.setVm s.vm).setFrames (.invoking m args :: below) := ⟨_, rfl⟩
  rw [← hA] at Y
  have hvm : s'.vm = s.vm := by rw [hA]; rfl
  have hhp : s'.heap = H := by rw [hA]; exact hT
  have hW0 : s.WarmedH s'.vm := by rw [hvm]; exact State.WarmedH.refl s
  have hat' : ∀ w ∈ vx_atS own ic cls names, w.before args s' = true := fun w hw => vx_ot_at hW0 hvm.symm (hgood w (List.mem_cons_of_mem _ (List.mem_cons_of_mem _ hw))) (hat w hw)
  have hk' : (Cond.classLink own ik cls).before args s' = true := vx_ot_at hW0 hvm.symm (hgood _ List.mem_cons_self) hk
  have hini' : (Cond.initialized cls).before args s' = true := vx_ot_at hW0 hvm.symm (hgood _ (List.mem_cons_of_mem _ List.mem_cons_self)) hini
  have hU' : vx_Zq Bundle.tN "UNASSIGNED_STACK" Bundle.steD A s' s'.heap := by rw [hhp]; exact vx_Zq.moved hW0.alike (hU.kept hS.2.1)
  have hN' : vx_Zq Bundle.tN "SUPPRESSED_SENTINEL" Bundle.listD A s' s'.heap := by rw [hhp]; exact vx_Zq.moved hW0.alike (hN.kept hS.2.1)
  have h : ∀ w ∈ Bundle.ownAtoms own ic cls names, w.before args s' = true := vx_own hat' (vx_isRefq hU'.1) (vx_isRefq hN'.1) hU'.2.word hN'.2.word
  have hown' : s'.vm.findClass own = some m.cls := by rw [hvm]; exact hown
  have hins : (Cond.instantiable cls 6).before args s' = true := h _ (by simp [Bundle.ownAtoms])
  obtain ⟨vm₁, cX, kX, hfX, hkX, -, -, X₁, st1⟩ := Y.newCold hexec (own := own) (C := cls) (index := ik) (n := 6) hown' hk' hins hini'
    (g := F0 m pc ls rest) rfl (by rw [hb]; exact d0) (Nat.le_refl _) (Nat.le_refl _)
  generalize hT1 : (T.setVm vm₁).pushCell { cls := cX, slots := kX.instanceTypes.map defaultValue, vm := .none } = T1 at X₁ st1
  have hcat : (Value.ref T.heap.size).category = 1 := rfl
  have hcellA : T1.heap[T.heap.size]? = some (freshCell cX kX) := by rw [← hT1]; exact State.heap_pushCell_size _ _
  have d3' : decode c.code (pc + 3) = .ok (.dup, 1) := by rw [hb]; exact d3
  have d4' : decode c.code (pc + 4) = .ok (.ldc_w is, 3) := by rw [hb]; exact d4
  have hstr' : vk_R own is text sa s' := vk_R.warm hW0 hstr
  obtain ⟨U, hsteps, hrun, hend, hW, hsame, ce, hce, hO⟩ := X₁.ctorThrowS hexec htr (own := own) (cls := cls) (names := names) (ic := ic) hown' hcls hnames h (fun x hx => nomatch hx) hfX hkX hcellA (by rw [hhp, hT]; exact Nat.le_refl _) (msg := .ref sa) rfl
    (g := { method := m, pc := pc + 7, locals := ls, stack := .ref sa :: .ref T.heap.size :: .ref T.heap.size :: rest, locked := none }) rfl hsize rfl rfl (rest := rest) rfl
    (by rw [hb]; exact d7) (by rw [hb]; exact d10) hout hRframes (by simp only [List.map_cons, List.sum_cons, hcat]; omega) hlocks
  obtain ⟨f1, f2⟩ := vx_frame hsame
  rw [hhp] at f1 f2
  have hWs : s.WarmedH U.vm := State.WarmedH.trans hW0 hW
  have hcl : s.vm.findClass cls = some ce.cls := by
    have h9 := hO.cls
    rw [hvm] at h9
    exact h9
  have hall : s.sameButNew ({ U with vm := s.vm } : State) locs mc ms := by
    subst hA
    obtain ⟨e1, e2⟩ := hsame
    rw [State.setFrames_setFrames] at e1
    have h2 : (T.setVm s.vm).sameButNew ({ U with vm := s.vm } : State) [] (0 + 1) (0 + 6) := ⟨e1, e2⟩
    have h3 := X.same.trans h2
    rw [List.append_nil] at h3
    exact h3.mono hc hs
  refine ⟨U, ?_, .threw T.heap.size, hrun, hend, Or.inr ⟨T.heap.size, rfl, cls, ce, locs, hx U hWs.alike f1 (fun q hq => f2 q hq (fun z hz => nomatch hz)), hce, hO.vm, hcl, hWs, hall, hf⟩⟩
  refine st1 _ ?_
  show Steps p.tables e below (T1.setTop { method := m, pc := pc + 3, locals := ls, stack := .ref T.heap.size :: rest, locked := none }) _
  jvm_step X₁.here [X₁.here.top, hexec, d3', Value.category]
  exact X₁.ldcStringW hexec (own := own) (text := text) (index := is) (a := sa) hown' hstr'.1 hstr'.2
    (g := { method := m, pc := pc + 4, locals := ls, stack := .ref T.heap.size :: .ref T.heap.size :: rest, locked := none }) rfl d4' _ hsteps
end Ends
section Bodies
variable {l : Launch}
theorem vx_ofW {y : MethodName} {ws ws' : List Cond} {rm : Room} {Pc : Array Value → State → Prop} {Qc : Array Value → State → Outcome → State → Prop} {XC : String → State → State → Prop} {mc ms : Nat} {free : Addr → Prop} {cc : ByteArray} {maxL : Nat} {ret : Option FieldType}
    (hy : plainName y.cls = true) (hw : ws = Cond.code y cc maxL ret :: ws')
    (body : ∀ p e s m args below meth c s₁, BodyLoose p l y (headSpec ws rm) cc maxL ret e s m args below meth c s₁ → c.maxLocals = maxL → (∀ x ∈ c.exceptionTable.toList, False) → Pc args s →
      W p l e (headSpec ws rm).room s m args below meth c s.heap [] 0 0 (vx_MQ below Qc XC args s mc ms free) (entryFrame m args maxL)) : vx_Met l y ws rm Pc Qc XC mc ms free := by
  refine MetFree.of_bodyS (code := cc) (maxLocals := maxL) (ret := ret) hy ?_ ?_
  · intro args s m h hn
    obtain ⟨meth, c, h1, h2, h3, h4, h5, h6, -, -⟩ := Cond.code_spec hn (atoms_spec (ws := ws) h _ (by rw [hw]; exact List.mem_cons_self))
    exact ⟨meth, c, h1, h2, h3, h4, h5, h6⟩
  · intro p e s m args below meth c s₁ B hml hP _
    have hh0 : s₁.heap = s.heap := by rw [B.state]; rfl
    have ht : ∀ x ∈ c.exceptionTable.toList, False := by
      obtain ⟨meth9, c9, h1, h2, -, -, -, -, h7, -⟩ := Cond.code_spec B.named (atoms_spec (ws := ws) B.pre _ (by rw [hw]; exact List.mem_cons_self))
      cases Option.some.inj (h1.symm.trans B.method)
      cases Option.some.inj (h2.symm.trans (Stand.of_body B).code)
      intro x hx
      rw [Array.isEmpty_iff.mp h7] at hx
      cases hx
    obtain ⟨t, a1, o, b1, b2, b3⟩ := body p e s m args below meth c s₁ B hml ht hP s₁ hh0 (Stand.of_body B)
    exact ⟨t, o, a1, b1, b2, b3⟩
/-- the table of a body with handlers -/
theorem vx_table {p : Program} {x y : MethodName} {S : Spec} {cc bytes : ByteArray} {maxL maxL' : Nat} {ret ret' : Option FieldType} {e : Env} {s s₁ : State} {m : MethodId} {args : Array Value} {below : List Frame} {meth : Method} {c : Code} {hh : List (Nat × Nat × Nat × Nat)}
    (B : BodyLoose p l y S cc maxL ret e s m args below meth c s₁) (h : (Cond.codeWith y bytes maxL' ret' hh).before args s = true) : c.exceptionTable.toList = tableOf hh := by
  obtain ⟨m9, meth9, c9, hn9, h1, h2, -, -, h6, -⟩ := Cond.codeWith_spec h
  cases Option.some.inj (hn9.symm.trans B.named)
  cases Option.some.inj (h1.symm.trans B.method)
  cases Option.some.inj (h2.symm.trans (Stand.of_body B).code)
  rw [← h6, table_eq]
end Bodies
end VXA
/-! ===== END ===== -/
/-! ===== BEGIN a static call of a method with an exception table ===== -/
section VXS
variable {p : Program} {l : Launch} {e : Env} {R : Room} {s : State} {m : MethodId} {args : Array Value} {below : List Frame} {meth : Method} {c : Code} {T : State} {H : Heap} {locs : List Loc} {cells slots : Nat}
abbrev vx_CSW (R : Room) (s : State) (args : Array Value) (own : String) (index : Nat) (y : MethodName) (bytes : ByteArray) (maxL : Nat) (ret : Option FieldType) (hh : List (Nat × Nat × Nat × Nat)) (ws : List Cond) (rm : Room) (mc ms n : Nat) : Prop :=
  (rm.cells = mc ∧ rm.slots = ms ∧ rm.frames + 1 ≤ R.frames ∧ 8 + (maxL + 11) + rm.locals ≤ R.locals ∧ (∀ w ∈ ws, ∀ (a' : Array Value) (U : State), s.WarmedH U.vm → w.before a' U = true) ∧ Cond.codeWith y bytes maxL ret hh ∈ ws) ∧
  (Cond.codeWith y bytes maxL ret hh).before args s = true ∧ (Cond.initialized y.cls).before args s = true ∧ (y.cls ≠ "java/lang/invoke/MethodHandle" ∧ y.cls ≠ "java/lang/invoke/VarHandle") ∧
  (∀ sig, parseMethodDescriptor y.desc = some sig → n = sig.parameters.length) ∧ (Cond.methodLink own index y).before args s = true ∧ (Cond.static y).before args s = true
theorem vx_cwSW {own : String} {index maxL mc ms : Nat} {y : MethodName} {bytes : ByteArray} {ret : Option FieldType} {hh : List (Nat × Nat × Nat × Nat)} {Ts ws ws' : List Cond} {rm : Room} (n : Nat) (ht : ∀ w ∈ Ts, w.before args s = true) (hT : GoodIn Ts (va_wsS own index y ws)) (hw : ws = Cond.codeWith y bytes maxL ret hh :: ws') (hrc : rm.cells = mc) (hrs : rm.slots = ms)
    (hd : y.cls ≠ "java/lang/invoke/MethodHandle" ∧ y.cls ≠ "java/lang/invoke/VarHandle" ∧ (parseMethodDescriptor y.desc).map (fun d => d.parameters.length) = some n) (hR : rm.frames + 1 ≤ R.frames ∧ 8 + (maxL + 11) + rm.locals ≤ R.locals) :
    vx_CSW R s args own index y bytes maxL ret hh ws rm mc ms n := by
  have ok : ∀ w ∈ va_wsS own index y ws, w.before args s = true := fun w h => ht w (hT w h).1
  have hG : GoodIn Ts ws := fun w h => hT w (by unfold va_wsS; exact List.mem_append_right _ h)
  have hc : Cond.codeWith y bytes maxL ret hh ∈ ws := by rw [hw]; exact List.mem_cons_self
  refine ⟨⟨hrc, hrs, hR.1, hR.2, pay_in ht hG, hc⟩, ht _ (hG _ hc).1, ok _ (by simp [va_wsS]), ⟨hd.1, hd.2.1⟩, fun sig h => ?_, ok _ (by simp [va_wsS]), ok _ (by simp [va_wsS])⟩
  have h2 := hd.2.2
  rw [h] at h2
  exact (Option.some.inj h2).symm
theorem vx_callSW (X : Stand p l e R s m args below meth c T locs cells slots) (hexec : p.tables.exec = Jvm.exec) {own : String} {index : Nat} {y : MethodName} {bytes : ByteArray} {maxL : Nat} {ret : Option FieldType} {hh : List (Nat × Nat × Nat × Nat)}
    (hown : s.vm.findClass own = some m.cls) (hlink : (Cond.methodLink own index y).before args s = true) (hstat : (Cond.static y).before args s = true) (hinit : (Cond.initialized y.cls).before args s = true)
    (hcode : (Cond.codeWith y bytes maxL ret hh).before args s = true) (hy : y.cls ≠ "java/lang/invoke/MethodHandle" ∧ y.cls ≠ "java/lang/invoke/VarHandle")
    {W9 : Nat} {Pre : Pt → Array Value → Prop} {Post : Pt → Array Value → Option Value → Pt → Prop} (hK : Back l R p e below s args y 3 W9 Pre Post)
    {g : JFrame} (hg : g.method = m) (hsize : g.locals.size = c.maxLocals) {argsL rest : List Value} (hlen : ∀ sig, parseMethodDescriptor y.desc = some sig → argsL.length = sig.parameters.length)
    (hstack : g.stack = argsL.reverse ++ rest) (hW : 2 * g.monitorRoom + (rest.map fun v => v.category).sum ≤ W9) (hdg : decode c.code g.pc = .ok (.invokestatic index, 3))
    (hpre : ∀ vm₁, s.WarmedH vm₁ → Pre ⟨T.setVm vm₁, locs, cells, slots⟩ argsL.toArray) :
    ∃ (v : Option Value) (vm₁ : Vm) (B : Pt), s.WarmedH vm₁ ∧ Stand p l e R s m args below meth c B.U B.locs B.cells B.slots ∧ Post ⟨T.setVm vm₁, locs, cells, slots⟩ argsL.toArray v B ∧
      ∀ target, Steps p.tables e below (B.U.setTop { g with pc := g.pc + 3, stack := v.toList ++ rest }) target → Steps p.tables e below (T.setTop g) target := by
  obtain ⟨mk, methM, cM, hnamed, hmethM, -, -, -, -, -, -, hsigM⟩ := Cond.codeWith_spec hcode
  have hstatic : methM.isStatic = true := Cond.static_spec hnamed hmethM hstat
  obtain ⟨kP, hkP, -⟩ := className_of_methodNamed hnamed
  have hinitP : kP.init = .initialized := Cond.initialized_spec (findClass_of_methodNamed hnamed) hkP hinit
  obtain ⟨vm₁, X₁, hstep₁⟩ := X.invokestatic hexec hown hlink hnamed hmethM hstatic hkP hinitP hy (g := g) hg (argsL := argsL) (rest := rest) (hlen _ hsigM) hstack hdg
  obtain ⟨v, B, X', hpost, hsteps⟩ := hK m meth c ⟨T.setVm vm₁, locs, cells, slots⟩ { g with stack := rest } (.invokestatic index) mk argsL.toArray X₁ hg hsize hdg hW (X₁.named hnamed) (hpre vm₁ X₁.warmed)
  exact ⟨v, vm₁, B, X₁.warmed, X', hpost, fun target h => hstep₁ _ fun acts => by rw [doInvoke_state]; exact hsteps.trans h⟩
theorem vx_runSW {y : MethodName} {bytes cc : ByteArray} {maxL nL mc ms n index : Nat} {ret : Option FieldType} {hh : List (Nat × Nat × Nat × Nat)} {ws : List Cond} {rm : Room} {Pc : Array Value → State → Prop} {Qc : Array Value → State → Outcome → State → Prop} {free : Addr → Prop} {Ts : List Cond} {own : String} {As rest : List Value} {g : JFrame}
    (S : CallFix p m c cc nL s args Ts own) (hM : Met l y ws rm Pc Qc mc ms free) (cw : vx_CSW R s args own index y bytes maxL ret hh ws rm mc ms n) (hp : PreS s H Pc As)
    (hg : g.method = m) (hn : As.length = n) (hsize : g.locals.size = nL) (hstack : g.stack = As.reverse ++ rest) (hW : 2 * g.monitorRoom + (rest.map fun v => v.category).sum ≤ 8) (hdg : decode cc g.pc = .ok (.invokestatic index, 3)) (hf : cells + mc ≤ R.cells ∧ slots + ms ≤ R.slots) :
    va_Run p l e R s m args below meth c H locs cells slots mc ms g rest (Qc As.toArray) (free) := by
  obtain ⟨⟨hrc, hrs, hfr, hlo, hws, hcw⟩, hcode, hini, hy, hlen, hl, hstt⟩ := cw
  have hK : Back l R p e below s args y 3 8 (PreOf R mc ms Pc) (PostOf Qc mc ms free) := va_backW (hh := hh) (bytes := bytes) (maxL := maxL) (ret := ret) hM hp.1 hrc hrs hfr hlo hws hcw (fun a' U hW => word_at hW (Or.inl (by first | rfl | simp [Cond.onTables, Cond.keeps, Cond.steady])) hini)
  obtain ⟨hx, hb, hml, ho, -⟩ := S
  intro T hT X
  obtain ⟨v, vm₁, ⟨U', l2, c2, s2⟩, hW₁, X', ⟨g', mk, t, L, e1, e2, hq, h1, hL, h2, h3⟩, st⟩ := vx_callSW X hx (hh := hh) (bytes := bytes) (maxL := maxL) (ret := ret) ho hl hstt hini hcode hy hK hg (hsize.trans hml.symm) (argsL := As) (rest := rest) (fun sig h => hn.trans (hlen sig h)) hstack hW (by rw [hb]; exact hdg)
    (fun vm₁ hW₁ => ⟨hf.1, hf.2, hp.2 (T.setVm vm₁) hT hW₁⟩)
  dsimp only [Pt.U, Pt.locs, Pt.cells, Pt.slots] at X' e1 e2 h1 h2 h3 st
  subst h1; subst h2; subst h3
  exact ⟨v, (T.setVm vm₁).calling g' mk As.toArray, t, U', L, hT, X', hL, e1, e2, hq, st⟩
/-- not caught here, past rows that name other classes: it goes on to the caller -/
theorem vx_outP {p : Program} {l : Launch} {e : Env} {R : Room} {s : State} {m : MethodId} {args : Array Value} {below : List Frame} {meth : Method} {c : Code} {H : Heap} {locs : List Loc} {cells slots : Nat} {free : Addr → Prop} {ls : Array Slot} {rest : List Value} {Qc : Array Value → State → Outcome → State → Prop} {XC : String → State → State → Prop}
    {pc : Nat} {own E : String} {ce : Cell} {q : Addr} {mc ms : Nat} (hown : s.vm.findClass own = some m.cls) (hlocks : meth.locks = false)
    (hpass : ∀ z ∈ c.exceptionTable.toList, covers z pc = false ∨ (z.catchType ≠ 0 ∧ ∃ nm : String, (Cond.classLink own z.catchType nm).before args s = true ∧ va_Nc E nm s)) (hcell : H[q]? = some ce) (hv : ce.vm = .none) (hcl : s.vm.findClass E = some ce.cls)
    (hx : ∀ t : State, t.heap = H → s.vm.Alike t.vm → XC E s t) (hf : ∀ z ∈ locs, free z.base) (hc : cells ≤ mc) (hs : slots ≤ ms) :
    vx_W p l e R s m args below meth c H locs cells slots (vx_MQ below Qc XC args s mc ms free) (F0 m pc ls rest) q := by
  intro T hT X
  have hpl : e.platform.magicAccessors = ({} : Platform).magicAccessors := by rw [X.admits.platform]
  obtain ⟨vm', hW', X', st⟩ := X.outThrough hlocks q (g := F0 m pc ls rest) rfl rfl rfl (cell := ce) (by rw [hT]; exact hcell) (by rw [hv]; rfl)
    (by obtain ⟨k9, h9, -⟩ := Vm.findClass_spec hcl; exact ⟨k9, h9⟩) (fun z hz => by
      rcases hpass z hz with h | ⟨hz0, nm, hl1, hn1⟩
      · exact Or.inl h
      · obtain ⟨c6, hc6, hcl6⟩ := Cond.classLink_spec hown hl1 e.platform hpl
        obtain ⟨a8, b8, h1, h2, h3⟩ := hn1
        cases Option.some.inj (h1.symm.trans hcl)
        cases Option.some.inj (h2.symm.trans hc6)
        exact Or.inr ⟨hz0, _, hcl6, h3⟩)
  obtain ⟨g₀, hfr⟩ := X'.frames_eq
  have hcell9 : ((T.setVm vm').setFrames (.throwing q :: below)).heap[q]? = some ce := by
    show T.heap[q]? = some ce
    rw [hT]; exact hcell
  have hend : Ended ((T.setVm vm').setFrames (.throwing q :: below)) below (.threw q) := State.frames_setFrames _ (State.cur_lt_of_frames hfr)
  refine ⟨(T.setVm vm').setFrames (.throwing q :: below), ?_, .threw q, X'.here.running, hend, Or.inr ⟨q, rfl, E, ce, locs, hx _ hT (X'.ends _).1.alike, hcell9, hv, hcl, (X'.ends _).1, (X'.ends _).2.mono hc hs, hf⟩⟩
  rw [X.pushThrowing_eq]
  exact st
/-- a thing of a world lies in the heap -/
theorem vx_lt {D : va_G} {cl : List vw_C} {ws : va_W} {H1 : Heap} (h : va_P D cl ws H1) {k : Nat} {q : Nat × va_E} (hk : ws[k]? = some q) : q.1 < H1.size := (h k q hk).lt
end VXS
/-! ===== END ===== -/
/-! ===== BEGIN methods with a table of their own: called by a name, returning or throwing ===== -/
section VXH
/-! vx_backW, vx_callVX, vx_callSX, vx_callVW, vx_runVW, vx_runVX, vx_runSX, vx_ofWH follow the same proofs as their sisters above (Free/Laws.lean, Shelf42/LK1.lean); vx_outP calls Shelf42/NT130.lean (outThrough). -/
section
variable {l : Launch} {R : Room} {p : Program} {e : Env} {below : List Frame} {s : State} {sargs : Array Value} {y : MethodName} {len W9 : Nat}
theorem vx_backW {ws : List Cond} {rm : Room} {Pc : Array Value → State → Prop} {Qc : Array Value → State → Outcome → State → Prop} {XC : String → State → State → Prop} {mc ms : Nat} {free : Addr → Prop} {bytes : ByteArray} {maxL : Nat} {ret : Option FieldType} {hh : List (Nat × Nat × Nat × Nat)}
    (hM : vx_Met l y ws rm Pc Qc XC mc ms free) (hblind : FrameBlind Pc) (hrc : rm.cells = mc) (hrs : rm.slots = ms)
    (hframes : rm.frames + 1 ≤ R.frames) (hlocals : W9 + (maxL + 11) + rm.locals ≤ R.locals)
    (hws : ∀ w ∈ ws, ∀ a' U, s.WarmedH U.vm → w.before a' U = true) (hcode : Cond.codeWith y bytes maxL ret hh ∈ ws) (hinit : ∀ a' U, s.WarmedH U.vm → (Cond.initialized y.cls).before a' U = true) :
    vx_Back l R p e below s sargs y len W9 (PreOf R mc ms Pc) (PostOf Qc mc ms free) (vx_Post XC mc ms free) := by
  intro m meth c A g ig mk a X hg hsize hdg hW hn hp
  have h1 : (headSpec ws rm).pre.before a A.U = true := atoms_intro fun w hw => hws w hw _ _ X.warmed
  have h2 : (Cond.codeWith y bytes maxL ret hh).before a A.U = true := hws _ hcode _ _ X.warmed
  have h3 : (Cond.initialized y.cls).before a A.U = true := hinit _ _ X.warmed
  have h4 : A.cells + (headSpec ws rm).room.cells ≤ R.cells := by rw [show (headSpec ws rm).room.cells = mc from hrc]; exact hp.1
  have h5 : A.slots + (headSpec ws rm).room.slots ≤ R.slots := by rw [show (headSpec ws rm).room.slots = ms from hrs]; exact hp.2.1
  have hPc : Pc a (A.U.calling g mk a) := hblind _ _ _ _ hp.2.2
  obtain ⟨U, Ls, c0, s0⟩ := A
  dsimp only [Pt.U, Pt.locs, Pt.cells, Pt.slots] at h1 h2 h3 h4 h5 X hn hPc ⊢
  obtain ⟨m9, methY, cY, hn9, hmY, hcY, -, hlY, -⟩ := Cond.codeWith_spec h2
  cases Option.some.inj (hn9.symm.trans hn)
  obtain ⟨kY, hkY, -⟩ := className_of_methodNamed hn
  have hinitY : kY.init = .initialized := Cond.initialized_spec (findClass_of_methodNamed hn) hkY h3
  have h : At U g.method c below := by rw [hg]; exact X.here
  have hlocals9 : W9 + (maxL + 11) + (headSpec ws rm).room.locals ≤ R.locals := hlocals
  have happ : (headSpec ws rm).appliesLoose y e.platform (U.calling g mk a) = true :=
    Spec.appliesLoose_calling (g := g) h hdg hn hkY hinitY
      (X.room_calling (g := g) (R' := (headSpec ws rm).room) hsize hmY hcY hframes (by rw [hlY]; omega) h4 h5) h1
  obtain ⟨mid, hmid⟩ := h.above
  have hfr : (U.setTop g).frames = (.java g :: mid) ++ below := by rw [State.frames_setTop' g h.top, hmid]; rfl
  obtain ⟨o, s₂, hsteps, -, hend, hq⟩ := Steps.callFree hM p X.admits X.cas X.clock (acts := []) hfr happ hPc trivial
  have hq' : vx_Q Qc XC mc ms free a (U.calling g mk a) o s₂ := hq
  rw [State.frames_setTop' g h.top] at hend
  obtain ⟨g₀, hg0⟩ := Option.isSome_iff_exists.mp h.top
  obtain ⟨r, hr⟩ := State.topJava?_eq_some.mp hg0
  have hr' : (({ U with heap := s₂.heap, slotsUsed := s₂.slotsUsed } : State).setVm s₂.vm).frames = .java g₀ :: r := hr
  rcases hq' with ⟨hqc, L, hfe, hL⟩ | ⟨q, rfl, E, ce, L, hx, hce, hcv, hcl, hW₂, hsm, hL⟩
  · obtain ⟨⟨v, rfl⟩, hW₂, e2, q2, q3, q4, q5, q6⟩ := id hfe
    have e3 : s₂ = ({ (U.calling g mk a).setFrames s₂.frames with heap := s₂.heap, slotsUsed := s₂.slotsUsed } : State).setVm s₂.vm := by
      have : s₂ = ({ s₂ with vm := (U.calling g mk a).vm } : State).setVm s₂.vm := rfl
      rw [e2] at this
      exact this
    obtain ⟨c₂, i₂, len₂, hc₂, hd₂, hf₂⟩ := hend
    have hW' : U.WarmedH s₂.vm := hW₂
    have hcc : c₂ = c := by
      have h1 : s₂.code? g.method = U.code? g.method := by
        rw [State.code?_eq, State.code?_eq, hW'.alike.method?]
      exact Option.some.inj (hc₂.symm.trans (h1.trans h.code))
    subst hcc
    have hlen : len₂ = len := by rw [hdg] at hd₂; cases hd₂; rfl
    subst hlen
    have hs₂ : s₂ = (({ U with heap := s₂.heap, slotsUsed := s₂.slotsUsed } : State).setVm s₂.vm).setTop { g with pc := g.pc + len₂, stack := v.toList ++ g.stack } := by
      refine e3.trans ?_
      rw [hf₂, State.calling_eq h.top, State.setFrames_setFrames, State.setTop_of_frames _ hr', hr]
      rfl
    have hsame : U.sameButNew ({ U with heap := s₂.heap, slotsUsed := s₂.slotsUsed } : State) L mc ms := by
      refine ⟨?_, q2, q3, q4, q5, q6⟩
      obtain ⟨t, ht, -⟩ := State.frames_cons hr
      show ({ U with heap := s₂.heap, slotsUsed := s₂.slotsUsed } : State) = { U.setFrames U.frames with heap := s₂.heap, slotsUsed := s₂.slotsUsed }
      rw [State.setFrames_self ht]
    subst hg
    refine Or.inl ⟨v, ⟨(({ U with heap := s₂.heap, slotsUsed := s₂.slotsUsed } : State).setVm s₂.vm), Ls ++ L, c0 + mc, s0 + ms⟩,
      ⟨X.admits, X.cas, X.clock, X.frames, X.room, X.hears, X.method, X.code, (X.here.setHeapUsed s₂.heap s₂.slotsUsed).setVm hW'.alike, X.tail, State.WarmedH.trans X.warmed hW', X.limits, X.bytes, X.same.trans (hsame.setVm s.vm)⟩,
      ⟨g, mk, s₂, L, rfl, rfl, hqc, rfl, hL, rfl, rfl⟩, ?_⟩
    show Steps p.tables e below _ ((({ U with heap := s₂.heap, slotsUsed := s₂.slotsUsed } : State).setVm s₂.vm).setTop { g with pc := g.pc + len₂, stack := v.toList ++ g.stack })
    rw [← hs₂]
    exact hsteps
  · obtain ⟨e2, q2, q3, q4, q5, q6⟩ := id hsm
    have e3 : s₂ = ({ (U.calling g mk a).setFrames s₂.frames with heap := s₂.heap, slotsUsed := s₂.slotsUsed } : State).setVm s₂.vm := by
      have : s₂ = ({ s₂ with vm := (U.calling g mk a).vm } : State).setVm s₂.vm := rfl
      rw [e2] at this
      exact this
    have hf₂ : s₂.frames = .throwing q :: .java g :: U.frames.tail := hend
    have hW' : U.WarmedH s₂.vm := hW₂
    have hs₂ : s₂ = ((({ U with heap := s₂.heap, slotsUsed := s₂.slotsUsed } : State).setVm s₂.vm).setTop g).pushFrame (.throwing q) := by
      refine e3.trans ?_
      rw [hf₂, State.calling_eq h.top, State.setFrames_setFrames, State.pushFrame, State.frames_setTop _ hr', State.setTop_of_frames _ hr', State.setFrames_setFrames, hr]
      rfl
    have hsame : U.sameButNew ({ U with heap := s₂.heap, slotsUsed := s₂.slotsUsed } : State) L mc ms := by
      refine ⟨?_, q2, q3, q4, q5, q6⟩
      obtain ⟨t, ht, -⟩ := State.frames_cons hr
      show ({ U with heap := s₂.heap, slotsUsed := s₂.slotsUsed } : State) = { U.setFrames U.frames with heap := s₂.heap, slotsUsed := s₂.slotsUsed }
      rw [State.setFrames_self ht]
    subst hg
    refine Or.inr ⟨q, ⟨(({ U with heap := s₂.heap, slotsUsed := s₂.slotsUsed } : State).setVm s₂.vm), Ls ++ L, c0 + mc, s0 + ms⟩,
      ⟨X.admits, X.cas, X.clock, X.frames, X.room, X.hears, X.method, X.code, (X.here.setHeapUsed s₂.heap s₂.slotsUsed).setVm hW'.alike, X.tail, State.WarmedH.trans X.warmed hW', X.limits, X.bytes, X.same.trans (hsame.setVm s.vm)⟩,
      ⟨g, mk, s₂, L, E, ce, rfl, rfl, hx, hce, hcv, hcl, rfl, hL, rfl, rfl⟩, ?_⟩
    show Steps p.tables e below _ (((({ U with heap := s₂.heap, slotsUsed := s₂.slotsUsed } : State).setVm s₂.vm).setTop g).pushFrame (.throwing q))
    rw [← hs₂]
    exact hsteps
end
variable {p : Program} {l : Launch} {e : Env} {R : Room} {s : State} {m : MethodId} {args : Array Value} {below : List Frame} {meth : Method} {c : Code} {T : State} {H : Heap} {locs : List Loc} {cells slots : Nat}
theorem vx_callVX (X : Stand p l e R s m args below meth c T locs cells slots) (hexec : p.tables.exec = Jvm.exec) {own C : String} {index : Nat} {y : MethodName} {bytes : ByteArray} {maxL : Nat} {ret : Option FieldType} {hh : List (Nat × Nat × Nat × Nat)}
    (hown : s.vm.findClass own = some m.cls) (hlink : (Cond.methodLink own index y).before args s = true) (hinst : (Cond.instanceMethod y).before args s = true) (hsel : (Cond.selects C y y).before args s = true)
    (hcode : (Cond.codeWith y bytes maxL ret hh).before args s = true) (hy : y.cls ≠ "java/lang/invoke/MethodHandle" ∧ y.cls ≠ "java/lang/invoke/VarHandle")
    {W9 : Nat} {Pre : Pt → Array Value → Prop} {Post : Pt → Array Value → Option Value → Pt → Prop} {PostX : Pt → Array Value → Addr → Pt → Prop} (hK : vx_Back l R p e below s args y 3 W9 Pre Post PostX)
    {b : Addr} {cellB : Cell} (hcell : T.heap[b]? = some cellB) (hobj : cellB.vm.isStatics = false) (hcls : s.vm.findClass C = some cellB.cls)
    {g : JFrame} (hg : g.method = m) (hsize : g.locals.size = c.maxLocals) {argsL rest : List Value} (hlen : ∀ sig, parseMethodDescriptor y.desc = some sig → argsL.length = sig.parameters.length)
    (hstack : g.stack = argsL.reverse ++ .ref b :: rest) (hW : 2 * g.monitorRoom + (rest.map fun v => v.category).sum ≤ W9) (hdg : decode c.code g.pc = .ok (.invokevirtual index, 3))
    (hpre : ∀ vm₁, s.WarmedH vm₁ → Pre ⟨T.setVm vm₁, locs, cells, slots⟩ (Value.ref b :: argsL).toArray) :
    (∃ (v : Option Value) (vm₁ : Vm) (B : Pt), s.WarmedH vm₁ ∧ Stand p l e R s m args below meth c B.U B.locs B.cells B.slots ∧ Post ⟨T.setVm vm₁, locs, cells, slots⟩ (Value.ref b :: argsL).toArray v B ∧
      ∀ target, Steps p.tables e below (B.U.setTop { g with pc := g.pc + 3, stack := v.toList ++ rest }) target → Steps p.tables e below (T.setTop g) target) ∨
    (∃ (q : Addr) (vm₁ : Vm) (B : Pt), s.WarmedH vm₁ ∧ Stand p l e R s m args below meth c B.U B.locs B.cells B.slots ∧ PostX ⟨T.setVm vm₁, locs, cells, slots⟩ (Value.ref b :: argsL).toArray q B ∧
      Steps p.tables e below (T.setTop g) ((B.U.setTop { g with stack := rest }).pushFrame (.throwing q))) := by
  obtain ⟨mk, methM, hnamed, hmethM, hstM, habM⟩ := Cond.instanceMethod_spec hinst
  obtain ⟨m8, methM', cM, hn8, hmethM', -, -, -, -, -, -, hsigM⟩ := Cond.codeWith_spec hcode
  cases Option.some.inj (hn8.symm.trans hnamed)
  cases hmethM.symm.trans hmethM'
  obtain ⟨c2, r2, m2, q1, q2, q3, q4, kP, hkP, hkPi⟩ := Cond.selects_spec hsel
  cases hcls.symm.trans q1
  cases (State.methodFound?_of_named hnamed hy).symm.trans q2
  cases hnamed.symm.trans q3
  have hselP : selectMethod e.platform s.vm cellB.cls mk = .method mk := by rw [Launch.admits_selectMethod X.admits]; exact q4
  obtain ⟨vm₁, X₁, hstep₁⟩ := X.invokevirtual hexec hown hlink hnamed hmethM hstM hkP hkPi hy (a := b) (cell := cellB) hcell
    (fun z h => by rw [h] at hobj; cases hobj) hselP hmethM habM hkP hkPi (g := g) hg (argsL := argsL) (rest := rest) (hlen _ hsigM) hstack hdg
  rcases hK m meth c ⟨T.setVm vm₁, locs, cells, slots⟩ { g with stack := rest } (.invokevirtual index) mk (Value.ref b :: argsL).toArray X₁ hg hsize hdg hW (X₁.named hnamed) (hpre vm₁ X₁.warmed) with ⟨v, B, X', hpost, hsteps⟩ | ⟨q, B, X', hpost, hsteps⟩
  · exact Or.inl ⟨v, vm₁, B, X₁.warmed, X', hpost, fun target h => hstep₁ _ fun acts => by rw [doInvoke_state]; exact hsteps.trans h⟩
  · exact Or.inr ⟨q, vm₁, B, X₁.warmed, X', hpost, hstep₁ _ fun acts => by rw [doInvoke_state]; exact hsteps⟩
theorem vx_callSX (X : Stand p l e R s m args below meth c T locs cells slots) (hexec : p.tables.exec = Jvm.exec) {own : String} {index : Nat} {y : MethodName} {bytes : ByteArray} {maxL : Nat} {ret : Option FieldType} {hh : List (Nat × Nat × Nat × Nat)}
    (hown : s.vm.findClass own = some m.cls) (hlink : (Cond.methodLink own index y).before args s = true) (hstat : (Cond.static y).before args s = true) (hinit : (Cond.initialized y.cls).before args s = true)
    (hcode : (Cond.codeWith y bytes maxL ret hh).before args s = true) (hy : y.cls ≠ "java/lang/invoke/MethodHandle" ∧ y.cls ≠ "java/lang/invoke/VarHandle")
    {W9 : Nat} {Pre : Pt → Array Value → Prop} {Post : Pt → Array Value → Option Value → Pt → Prop} {PostX : Pt → Array Value → Addr → Pt → Prop} (hK : vx_Back l R p e below s args y 3 W9 Pre Post PostX)
    {g : JFrame} (hg : g.method = m) (hsize : g.locals.size = c.maxLocals) {argsL rest : List Value} (hlen : ∀ sig, parseMethodDescriptor y.desc = some sig → argsL.length = sig.parameters.length)
    (hstack : g.stack = argsL.reverse ++ rest) (hW : 2 * g.monitorRoom + (rest.map fun v => v.category).sum ≤ W9) (hdg : decode c.code g.pc = .ok (.invokestatic index, 3))
    (hpre : ∀ vm₁, s.WarmedH vm₁ → Pre ⟨T.setVm vm₁, locs, cells, slots⟩ argsL.toArray) :
    (∃ (v : Option Value) (vm₁ : Vm) (B : Pt), s.WarmedH vm₁ ∧ Stand p l e R s m args below meth c B.U B.locs B.cells B.slots ∧ Post ⟨T.setVm vm₁, locs, cells, slots⟩ argsL.toArray v B ∧
      ∀ target, Steps p.tables e below (B.U.setTop { g with pc := g.pc + 3, stack := v.toList ++ rest }) target → Steps p.tables e below (T.setTop g) target) ∨
    (∃ (q : Addr) (vm₁ : Vm) (B : Pt), s.WarmedH vm₁ ∧ Stand p l e R s m args below meth c B.U B.locs B.cells B.slots ∧ PostX ⟨T.setVm vm₁, locs, cells, slots⟩ argsL.toArray q B ∧
      Steps p.tables e below (T.setTop g) ((B.U.setTop { g with stack := rest }).pushFrame (.throwing q))) := by
  obtain ⟨mk, methM, cM, hnamed, hmethM, -, -, -, -, -, -, hsigM⟩ := Cond.codeWith_spec hcode
  have hstatic : methM.isStatic = true := Cond.static_spec hnamed hmethM hstat
  obtain ⟨kP, hkP, -⟩ := className_of_methodNamed hnamed
  have hinitP : kP.init = .initialized := Cond.initialized_spec (findClass_of_methodNamed hnamed) hkP hinit
  obtain ⟨vm₁, X₁, hstep₁⟩ := X.invokestatic hexec hown hlink hnamed hmethM hstatic hkP hinitP hy (g := g) hg (argsL := argsL) (rest := rest) (hlen _ hsigM) hstack hdg
  rcases hK m meth c ⟨T.setVm vm₁, locs, cells, slots⟩ { g with stack := rest } (.invokestatic index) mk argsL.toArray X₁ hg hsize hdg hW (X₁.named hnamed) (hpre vm₁ X₁.warmed) with ⟨v, B, X', hpost, hsteps⟩ | ⟨q, B, X', hpost, hsteps⟩
  · exact Or.inl ⟨v, vm₁, B, X₁.warmed, X', hpost, fun target h => hstep₁ _ fun acts => by rw [doInvoke_state]; exact hsteps.trans h⟩
  · exact Or.inr ⟨q, vm₁, B, X₁.warmed, X', hpost, hstep₁ _ fun acts => by rw [doInvoke_state]; exact hsteps⟩
theorem vx_callVW (X : Stand p l e R s m args below meth c T locs cells slots) (hexec : p.tables.exec = Jvm.exec) {own C : String} {index : Nat} {y : MethodName} {bytes : ByteArray} {maxL : Nat} {ret : Option FieldType} {hh : List (Nat × Nat × Nat × Nat)}
    (hown : s.vm.findClass own = some m.cls) (hlink : (Cond.methodLink own index y).before args s = true) (hinst : (Cond.instanceMethod y).before args s = true) (hsel : (Cond.selects C y y).before args s = true)
    (hcode : (Cond.codeWith y bytes maxL ret hh).before args s = true) (hy : y.cls ≠ "java/lang/invoke/MethodHandle" ∧ y.cls ≠ "java/lang/invoke/VarHandle")
    {W9 : Nat} {Pre : Pt → Array Value → Prop} {Post : Pt → Array Value → Option Value → Pt → Prop} (hK : Back l R p e below s args y 3 W9 Pre Post)
    {b : Addr} {cellB : Cell} (hcell : T.heap[b]? = some cellB) (hobj : cellB.vm.isStatics = false) (hcls : s.vm.findClass C = some cellB.cls)
    {g : JFrame} (hg : g.method = m) (hsize : g.locals.size = c.maxLocals) {argsL rest : List Value} (hlen : ∀ sig, parseMethodDescriptor y.desc = some sig → argsL.length = sig.parameters.length)
    (hstack : g.stack = argsL.reverse ++ .ref b :: rest) (hW : 2 * g.monitorRoom + (rest.map fun v => v.category).sum ≤ W9) (hdg : decode c.code g.pc = .ok (.invokevirtual index, 3))
    (hpre : ∀ vm₁, s.WarmedH vm₁ → Pre ⟨T.setVm vm₁, locs, cells, slots⟩ (Value.ref b :: argsL).toArray) :
    ∃ (v : Option Value) (vm₁ : Vm) (B : Pt), s.WarmedH vm₁ ∧ Stand p l e R s m args below meth c B.U B.locs B.cells B.slots ∧ Post ⟨T.setVm vm₁, locs, cells, slots⟩ (Value.ref b :: argsL).toArray v B ∧
      ∀ target, Steps p.tables e below (B.U.setTop { g with pc := g.pc + 3, stack := v.toList ++ rest }) target → Steps p.tables e below (T.setTop g) target := by
  obtain ⟨mk, methM, hnamed, hmethM, hstM, habM⟩ := Cond.instanceMethod_spec hinst
  obtain ⟨m8, methM', cM, hn8, hmethM', -, -, -, -, -, -, hsigM⟩ := Cond.codeWith_spec hcode
  cases Option.some.inj (hn8.symm.trans hnamed)
  cases hmethM.symm.trans hmethM'
  obtain ⟨c2, r2, m2, q1, q2, q3, q4, kP, hkP, hkPi⟩ := Cond.selects_spec hsel
  cases hcls.symm.trans q1
  cases (State.methodFound?_of_named hnamed hy).symm.trans q2
  cases hnamed.symm.trans q3
  have hselP : selectMethod e.platform s.vm cellB.cls mk = .method mk := by rw [Launch.admits_selectMethod X.admits]; exact q4
  obtain ⟨vm₁, X₁, hstep₁⟩ := X.invokevirtual hexec hown hlink hnamed hmethM hstM hkP hkPi hy (a := b) (cell := cellB) hcell
    (fun z h => by rw [h] at hobj; cases hobj) hselP hmethM habM hkP hkPi (g := g) hg (argsL := argsL) (rest := rest) (hlen _ hsigM) hstack hdg
  obtain ⟨v, B, X', hpost, hsteps⟩ := hK m meth c ⟨T.setVm vm₁, locs, cells, slots⟩ { g with stack := rest } (.invokevirtual index) mk (Value.ref b :: argsL).toArray X₁ hg hsize hdg hW (X₁.named hnamed) (hpre vm₁ X₁.warmed)
  exact ⟨v, vm₁, B, X₁.warmed, X', hpost, fun target h => hstep₁ _ fun acts => by rw [doInvoke_state]; exact hsteps.trans h⟩
abbrev vx_CVW (R : Room) (s : State) (args : Array Value) (own C : String) (index : Nat) (y : MethodName) (bytes : ByteArray) (maxL : Nat) (ret : Option FieldType) (hh : List (Nat × Nat × Nat × Nat)) (ws : List Cond) (rm : Room) (mc ms n : Nat) : Prop :=
  (rm.cells = mc ∧ rm.slots = ms ∧ rm.frames + 1 ≤ R.frames ∧ 8 + (maxL + 11) + rm.locals ≤ R.locals ∧ (∀ w ∈ ws, ∀ (a' : Array Value) (U : State), s.WarmedH U.vm → w.before a' U = true) ∧ Cond.codeWith y bytes maxL ret hh ∈ ws) ∧
  (Cond.codeWith y bytes maxL ret hh).before args s = true ∧ (Cond.initialized y.cls).before args s = true ∧ (y.cls ≠ "java/lang/invoke/MethodHandle" ∧ y.cls ≠ "java/lang/invoke/VarHandle") ∧
  (∀ sig, parseMethodDescriptor y.desc = some sig → n = sig.parameters.length) ∧ (Cond.methodLink own index y).before args s = true ∧ (Cond.instanceMethod y).before args s = true ∧ (Cond.selects C y y).before args s = true
theorem vx_cwVW {own C : String} {index maxL mc ms : Nat} {y : MethodName} {bytes : ByteArray} {ret : Option FieldType} {hh : List (Nat × Nat × Nat × Nat)} {Ts ws ws' : List Cond} {rm : Room} (n : Nat) (ht : ∀ w ∈ Ts, w.before args s = true) (hT : GoodIn Ts (wsV own index C y ws)) (hw : ws = Cond.codeWith y bytes maxL ret hh :: ws') (hrc : rm.cells = mc) (hrs : rm.slots = ms)
    (hd : y.cls = C ∧ y.cls ≠ "java/lang/invoke/MethodHandle" ∧ y.cls ≠ "java/lang/invoke/VarHandle" ∧ (parseMethodDescriptor y.desc).map (fun d => d.parameters.length) = some n) (hR : rm.frames + 1 ≤ R.frames ∧ 8 + (maxL + 11) + rm.locals ≤ R.locals) :
    vx_CVW R s args own C index y bytes maxL ret hh ws rm mc ms n := by
  obtain ⟨hC, hd⟩ := hd
  subst hC
  have ok : ∀ w ∈ wsV own index y.cls y ws, w.before args s = true := fun w h => ht w (hT w h).1
  have hG : GoodIn Ts ws := fun w h => hT w (by unfold wsV; exact List.mem_append_right _ h)
  have hc : Cond.codeWith y bytes maxL ret hh ∈ ws := by rw [hw]; exact List.mem_cons_self
  refine ⟨⟨hrc, hrs, hR.1, hR.2, pay_in ht hG, hc⟩, ht _ (hG _ hc).1, ok _ (by simp [wsV]), ⟨hd.1, hd.2.1⟩, fun sig h => ?_, ok _ (by simp [wsV]), ok _ (by simp [wsV]), ok _ (by simp [wsV])⟩
  have h2 := hd.2.2
  rw [h] at h2
  exact (Option.some.inj h2).symm
theorem vx_runVW {y : MethodName} {bytes cc : ByteArray} {maxL nL mc ms n index : Nat} {ret : Option FieldType} {hh : List (Nat × Nat × Nat × Nat)} {ws : List Cond} {rm : Room} {Pc : Array Value → State → Prop} {Qc : Array Value → State → Outcome → State → Prop} {free : Addr → Prop} {Ts : List Cond} {own C : String} {b : Addr} {As rest : List Value} {g : JFrame}
    (S : CallFix p m c cc nL s args Ts own) (hM : Met l y ws rm Pc Qc mc ms free) (cw : vx_CVW R s args own C index y bytes maxL ret hh ws rm mc ms n) (hp : PreV s H C b Pc As)
    (hg : g.method = m) (hn : As.length = n) (hsize : g.locals.size = nL) (hstack : g.stack = As.reverse ++ .ref b :: rest) (hW : 2 * g.monitorRoom + (rest.map fun v => v.category).sum ≤ 8) (hdg : decode cc g.pc = .ok (.invokevirtual index, 3)) (hf : cells + mc ≤ R.cells ∧ slots + ms ≤ R.slots) :
    va_Run p l e R s m args below meth c H locs cells slots mc ms g rest (Qc (Value.ref b :: As).toArray) free := by
  obtain ⟨⟨hrc, hrs, hfr, hlo, hws, hcw⟩, hcode, hini, hy, hlen, hl, hin, hse⟩ := cw
  have hK : Back l R p e below s args y 3 8 (PreOf R mc ms Pc) (PostOf Qc mc ms free) := va_backW (hh := hh) (bytes := bytes) (maxL := maxL) (ret := ret) hM hp.1 hrc hrs hfr hlo hws hcw (fun a' U hW => word_at hW (Or.inl (by first | rfl | simp [Cond.onTables, Cond.keeps, Cond.steady])) hini)
  obtain ⟨hx, hb, hml, ho, -⟩ := S
  obtain ⟨-, ⟨cellB, hcB, hoB, hclB⟩, hPc⟩ := hp
  intro T hT X
  obtain ⟨v, vm₁, ⟨U', l2, c2, s2⟩, hW₁, X', ⟨g', mk, t, L, e1, e2, hq, h1, hL, h2, h3⟩, st⟩ := vx_callVW X hx (C := C) (hh := hh) (bytes := bytes) (maxL := maxL) (ret := ret) ho hl hin hse hcode hy hK (by rw [hT]; exact hcB) hoB hclB hg (hsize.trans hml.symm) (argsL := As) (rest := rest) (fun sig h => hn.trans (hlen sig h)) hstack hW (by rw [hb]; exact hdg)
    (fun vm₁ hW₁ => ⟨hf.1, hf.2, hPc (T.setVm vm₁) hT hW₁⟩)
  dsimp only [Pt.U, Pt.locs, Pt.cells, Pt.slots] at X' e1 e2 h1 h2 h3 st
  subst h1; subst h2; subst h3
  exact ⟨v, (T.setVm vm₁).calling g' mk (Value.ref b :: As).toArray, t, U', L, hT, X', hL, e1, e2, hq, st⟩
section
variable {y : MethodName} {bytes cc : ByteArray} {maxL nL mc ms n index : Nat} {ret : Option FieldType} {ws : List Cond} {rm : Room} {Pc : Array Value → State → Prop} {Qc : Array Value → State → Outcome → State → Prop} {XC : String → State → State → Prop} {free : Addr → Prop} {Ts : List Cond} {own C : String} {b : Addr} {As rest : List Value} {g : JFrame}
theorem vx_runVX {hh : List (Nat × Nat × Nat × Nat)} (S : CallFix p m c cc nL s args Ts own) (hM : vx_Met l y ws rm Pc Qc XC mc ms free) (cw : vx_CVW R s args own C index y bytes maxL ret hh ws rm mc ms n) (hp : PreV s H C b Pc As)
    (hg : g.method = m) (hn : As.length = n) (hsize : g.locals.size = nL) (hstack : g.stack = As.reverse ++ .ref b :: rest) (hW : 2 * g.monitorRoom + (rest.map fun v => v.category).sum ≤ 8) (hdg : decode cc g.pc = .ok (.invokevirtual index, 3)) (hf : cells + mc ≤ R.cells ∧ slots + ms ≤ R.slots) :
    vx_Run p l e R s m args below meth c H locs cells slots mc ms g rest (Qc (Value.ref b :: As).toArray) XC free := by
  obtain ⟨⟨hrc, hrs, hfr, hlo, hws, hcw⟩, hcode, hini, hy, hlen, hl, hin, hse⟩ := cw
  have hK : vx_Back l R p e below s args y 3 8 (PreOf R mc ms Pc) (PostOf Qc mc ms free) (vx_Post XC mc ms free) := vx_backW (hh := hh) (bytes := bytes) (maxL := maxL) (ret := ret) hM hp.1 hrc hrs hfr hlo hws hcw (fun a' U hW => word_at hW (Or.inl (by first | rfl | simp [Cond.onTables, Cond.keeps, Cond.steady])) hini)
  obtain ⟨hx, hb, hml, ho, -⟩ := S
  obtain ⟨-, ⟨cellB, hcB, hoB, hclB⟩, hPc⟩ := hp
  intro T hT X
  rcases vx_callVX X hx (C := C) (hh := hh) (bytes := bytes) (maxL := maxL) (ret := ret) ho hl hin hse hcode hy hK (by rw [hT]; exact hcB) hoB hclB hg (hsize.trans hml.symm) (argsL := As) (rest := rest) (fun sig h => hn.trans (hlen sig h)) hstack hW (by rw [hb]; exact hdg)
    (fun vm₁ hW₁ => ⟨hf.1, hf.2, hPc (T.setVm vm₁) hT hW₁⟩) with ⟨v, vm₁, ⟨U', l2, c2, s2⟩, hW₁, X', ⟨g', mk, t, L, e1, e2, hq, h1, hL, h2, h3⟩, st⟩ | ⟨q, vm₁, ⟨U', l2, c2, s2⟩, hW₁, X', ⟨g', mk, t, L, E, ce, e1, e2, hq, hce, hcv, hcl, h1, hL, h2, h3⟩, st⟩
  · dsimp only [Pt.U, Pt.locs, Pt.cells, Pt.slots] at X' e1 e2 h1 h2 h3 st
    subst h1; subst h2; subst h3
    exact Or.inl ⟨v, (T.setVm vm₁).calling g' mk (Value.ref b :: As).toArray, t, U', L, hT, X', hL, e1, e2, hq, st⟩
  · dsimp only [Pt.U, Pt.locs, Pt.cells, Pt.slots] at X' e1 e2 h1 h2 h3 st hcl
    subst h1; subst h2; subst h3
    exact Or.inr ⟨q, (T.setVm vm₁).calling g' mk (Value.ref b :: As).toArray, t, U', L, E, ce, hT, X', hL, e1, e2, hq, hce, hcv, vx_cls hW₁ hcl, st⟩
theorem vx_runSX {hh : List (Nat × Nat × Nat × Nat)} (S : CallFix p m c cc nL s args Ts own) (hM : vx_Met l y ws rm Pc Qc XC mc ms free) (cw : vx_CSW R s args own index y bytes maxL ret hh ws rm mc ms n) (hp : PreS s H Pc As)
    (hg : g.method = m) (hn : As.length = n) (hsize : g.locals.size = nL) (hstack : g.stack = As.reverse ++ rest) (hW : 2 * g.monitorRoom + (rest.map fun v => v.category).sum ≤ 8) (hdg : decode cc g.pc = .ok (.invokestatic index, 3)) (hf : cells + mc ≤ R.cells ∧ slots + ms ≤ R.slots) :
    vx_Run p l e R s m args below meth c H locs cells slots mc ms g rest (Qc As.toArray) XC free := by
  obtain ⟨⟨hrc, hrs, hfr, hlo, hws, hcw⟩, hcode, hini, hy, hlen, hl, hstt⟩ := cw
  have hK : vx_Back l R p e below s args y 3 8 (PreOf R mc ms Pc) (PostOf Qc mc ms free) (vx_Post XC mc ms free) := vx_backW (hh := hh) (bytes := bytes) (maxL := maxL) (ret := ret) hM hp.1 hrc hrs hfr hlo hws hcw (fun a' U hW => word_at hW (Or.inl (by first | rfl | simp [Cond.onTables, Cond.keeps, Cond.steady])) hini)
  obtain ⟨hx, hb, hml, ho, -⟩ := S
  intro T hT X
  rcases vx_callSX X hx (hh := hh) (bytes := bytes) (maxL := maxL) (ret := ret) ho hl hstt hini hcode hy hK hg (hsize.trans hml.symm) (argsL := As) (rest := rest) (fun sig h => hn.trans (hlen sig h)) hstack hW (by rw [hb]; exact hdg)
    (fun vm₁ hW₁ => ⟨hf.1, hf.2, hp.2 (T.setVm vm₁) hT hW₁⟩) with ⟨v, vm₁, ⟨U', l2, c2, s2⟩, hW₁, X', ⟨g', mk, t, L, e1, e2, hq, h1, hL, h2, h3⟩, st⟩ | ⟨q, vm₁, ⟨U', l2, c2, s2⟩, hW₁, X', ⟨g', mk, t, L, E, ce, e1, e2, hq, hce, hcv, hcl, h1, hL, h2, h3⟩, st⟩
  · dsimp only [Pt.U, Pt.locs, Pt.cells, Pt.slots] at X' e1 e2 h1 h2 h3 st
    subst h1; subst h2; subst h3
    exact Or.inl ⟨v, (T.setVm vm₁).calling g' mk As.toArray, t, U', L, hT, X', hL, e1, e2, hq, st⟩
  · dsimp only [Pt.U, Pt.locs, Pt.cells, Pt.slots] at X' e1 e2 h1 h2 h3 st hcl
    subst h1; subst h2; subst h3
    exact Or.inr ⟨q, (T.setVm vm₁).calling g' mk As.toArray, t, U', L, E, ce, hT, X', hL, e1, e2, hq, hce, hcv, vx_cls hW₁ hcl, st⟩
end
end VXH
theorem vx_ofWH {l : Launch} {y : MethodName} {ws ws' : List Cond} {rm : Room} {Pc : Array Value → State → Prop} {Qc : Array Value → State → Outcome → State → Prop} {XC : String → State → State → Prop} {mc ms : Nat} {free : Addr → Prop} {cc : ByteArray} {maxL : Nat} {ret : Option FieldType} {hh : List (Nat × Nat × Nat × Nat)}
    (hy : plainName y.cls = true) (hw : ws = Cond.codeWith y cc maxL ret hh :: ws')
    (body : ∀ p e s m args below meth c s₁, BodyLoose p l y (headSpec ws rm) cc maxL ret e s m args below meth c s₁ → c.maxLocals = maxL → Pc args s →
      W p l e (headSpec ws rm).room s m args below meth c s.heap [] 0 0 (vx_MQ below Qc XC args s mc ms free) (entryFrame m args maxL)) : vx_Met l y ws rm Pc Qc XC mc ms free := by
  refine MetFree.of_bodyS (code := cc) (maxLocals := maxL) (ret := ret) hy ?_ ?_
  · intro args s m h hn
    obtain ⟨m9, meth, c, hn9, h1, h2, h3, h4, -, h5, h6, -⟩ := Cond.codeWith_spec (atoms_spec (ws := ws) h _ (by rw [hw]; exact List.mem_cons_self))
    cases hn.symm.trans hn9
    exact ⟨meth, c, h1, h2, h3, h4, h5, h6⟩
  · intro p e s m args below meth c s₁ B hml hP _
    have hh0 : s₁.heap = s.heap := by rw [B.state]; rfl
    obtain ⟨t, a1, o, b1, b2, b3⟩ := body p e s m args below meth c s₁ B hml hP s₁ hh0 (Stand.of_body B)
    exact ⟨t, o, a1, b1, b2, b3⟩
/-! ===== END ===== -/

-- ===== PART A: goes FIRST, ahead of the names: the tables' words, and 'selects' of the private methods out of them =====
/-- a private method of a class that the tables say can be made, by its rows of tables_1 -/
def lw_okq (q : MethodName × Nat) : Prop := (q.1.cls ≠ "java/lang/invoke/MethodHandle" ∧ q.1.cls ≠ "java/lang/invoke/VarHandle") ∧ Cond.instantiable q.1.cls q.2 ∈ tables_1 ∧ Cond.privateMethod q.1 ∈ tables_1 ∧ Cond.instanceMethod q.1 ∈ tables_1
theorem lw_p0 : lw_okq (⟨"java/lang/Throwable", "fillInStackTrace", "(I)Ljava/lang/Throwable;"⟩, 6) := ⟨⟨by decide +kernel, by decide +kernel⟩, List.mem_of_getElem? (i := 211) (by decide +kernel), List.mem_of_getElem? (i := 209) (by decide +kernel), List.mem_of_getElem? (i := 210) (by decide +kernel)⟩
theorem lw_p1 : lw_okq (⟨"TrainingRows", "requireCourse", "(I)V"⟩, 5) := ⟨⟨by decide +kernel, by decide +kernel⟩, List.mem_of_getElem? (i := 16) (by decide +kernel), List.mem_of_getElem? (i := 274) (by decide +kernel), List.mem_of_getElem? (i := 275) (by decide +kernel)⟩
theorem lw_p2 : lw_okq (⟨"TrainingRows", "requirePair", "(II)V"⟩, 5) := ⟨⟨by decide +kernel, by decide +kernel⟩, List.mem_of_getElem? (i := 16) (by decide +kernel), List.mem_of_getElem? (i := 356) (by decide +kernel), List.mem_of_getElem? (i := 357) (by decide +kernel)⟩
theorem lw_p3 : lw_okq (⟨"TrainingRows", "whyBarred", "(II)I"⟩, 5) := ⟨⟨by decide +kernel, by decide +kernel⟩, List.mem_of_getElem? (i := 16) (by decide +kernel), List.mem_of_getElem? (i := 361) (by decide +kernel), List.mem_of_getElem? (i := 362) (by decide +kernel)⟩
theorem lw_p4 : lw_okq (⟨"TrainingRows", "holdsNeeds", "(II)Z"⟩, 5) := ⟨⟨by decide +kernel, by decide +kernel⟩, List.mem_of_getElem? (i := 16) (by decide +kernel), List.mem_of_getElem? (i := 365) (by decide +kernel), List.mem_of_getElem? (i := 366) (by decide +kernel)⟩
theorem lw_p5 : lw_okq (⟨"TrainingRows", "holdsNow", "(II)Z"⟩, 5) := ⟨⟨by decide +kernel, by decide +kernel⟩, List.mem_of_getElem? (i := 16) (by decide +kernel), List.mem_of_getElem? (i := 369) (by decide +kernel), List.mem_of_getElem? (i := 370) (by decide +kernel)⟩
theorem lw_p6 : lw_okq (⟨"TrainingRows", "lapseNow", "(II)I"⟩, 5) := ⟨⟨by decide +kernel, by decide +kernel⟩, List.mem_of_getElem? (i := 16) (by decide +kernel), List.mem_of_getElem? (i := 373) (by decide +kernel), List.mem_of_getElem? (i := 374) (by decide +kernel)⟩
theorem lw_p7 : lw_okq (⟨"TrainingRows", "lapseOf", "(II)I"⟩, 5) := ⟨⟨by decide +kernel, by decide +kernel⟩, List.mem_of_getElem? (i := 16) (by decide +kernel), List.mem_of_getElem? (i := 380) (by decide +kernel), List.mem_of_getElem? (i := 381) (by decide +kernel)⟩
theorem lw_p8 : lw_okq (⟨"TrainingRows", "roomNow", "(I)I"⟩, 5) := ⟨⟨by decide +kernel, by decide +kernel⟩, List.mem_of_getElem? (i := 16) (by decide +kernel), List.mem_of_getElem? (i := 385) (by decide +kernel), List.mem_of_getElem? (i := 386) (by decide +kernel)⟩
theorem lw_p9 : lw_okq (⟨"TrainingRows", "instructorsNow", "(I)I"⟩, 5) := ⟨⟨by decide +kernel, by decide +kernel⟩, List.mem_of_getElem? (i := 16) (by decide +kernel), List.mem_of_getElem? (i := 389) (by decide +kernel), List.mem_of_getElem? (i := 390) (by decide +kernel)⟩
theorem lw_p10 : lw_okq (⟨"TrainingRows", "requireRoomForResult", "()V"⟩, 5) := ⟨⟨by decide +kernel, by decide +kernel⟩, List.mem_of_getElem? (i := 16) (by decide +kernel), List.mem_of_getElem? (i := 397) (by decide +kernel), List.mem_of_getElem? (i := 398) (by decide +kernel)⟩
theorem lw_p11 : lw_okq (⟨"TrainingRows", "addResult", "(IIZ)I"⟩, 5) := ⟨⟨by decide +kernel, by decide +kernel⟩, List.mem_of_getElem? (i := 16) (by decide +kernel), List.mem_of_getElem? (i := 406) (by decide +kernel), List.mem_of_getElem? (i := 407) (by decide +kernel)⟩
theorem lw_p12 : lw_okq (⟨"TrainingRows", "personsToRenew", "(II)I"⟩, 5) := ⟨⟨by decide +kernel, by decide +kernel⟩, List.mem_of_getElem? (i := 16) (by decide +kernel), List.mem_of_getElem? (i := 504) (by decide +kernel), List.mem_of_getElem? (i := 505) (by decide +kernel)⟩
theorem lw_p13 : lw_okq (⟨"TrainingRows$Seating", "seatOneMore", "(II)Z"⟩, 6) := ⟨⟨by decide +kernel, by decide +kernel⟩, List.mem_of_getElem? (i := 116) (by decide +kernel), List.mem_of_getElem? (i := 512) (by decide +kernel), List.mem_of_getElem? (i := 513) (by decide +kernel)⟩
theorem lw_p14 : lw_okq (⟨"TrainingRows$Seating", "moveAlong", "(I)V"⟩, 6) := ⟨⟨by decide +kernel, by decide +kernel⟩, List.mem_of_getElem? (i := 116) (by decide +kernel), List.mem_of_getElem? (i := 517) (by decide +kernel), List.mem_of_getElem? (i := 518) (by decide +kernel)⟩
theorem lw_p15 : lw_okq (⟨"TrainingRows$Seating", "sit", "(II)V"⟩, 6) := ⟨⟨by decide +kernel, by decide +kernel⟩, List.mem_of_getElem? (i := 116) (by decide +kernel), List.mem_of_getElem? (i := 521) (by decide +kernel), List.mem_of_getElem? (i := 522) (by decide +kernel)⟩
def lw_privs_1 : List (MethodName × Nat) := [(⟨"java/lang/Throwable", "fillInStackTrace", "(I)Ljava/lang/Throwable;"⟩, 6), (⟨"TrainingRows", "requireCourse", "(I)V"⟩, 5), (⟨"TrainingRows", "requirePair", "(II)V"⟩, 5), (⟨"TrainingRows", "whyBarred", "(II)I"⟩, 5), (⟨"TrainingRows", "holdsNeeds", "(II)Z"⟩, 5), (⟨"TrainingRows", "holdsNow", "(II)Z"⟩, 5), (⟨"TrainingRows", "lapseNow", "(II)I"⟩, 5), (⟨"TrainingRows", "lapseOf", "(II)I"⟩, 5), (⟨"TrainingRows", "roomNow", "(I)I"⟩, 5), (⟨"TrainingRows", "instructorsNow", "(I)I"⟩, 5), (⟨"TrainingRows", "requireRoomForResult", "()V"⟩, 5), (⟨"TrainingRows", "addResult", "(IIZ)I"⟩, 5), (⟨"TrainingRows", "personsToRenew", "(II)I"⟩, 5), (⟨"TrainingRows$Seating", "seatOneMore", "(II)Z"⟩, 6), (⟨"TrainingRows$Seating", "moveAlong", "(I)V"⟩, 6), (⟨"TrainingRows$Seating", "sit", "(II)V"⟩, 6)]
theorem lw_r1 : ∀ q ∈ lw_privs_1, lw_okq q := List.forall_mem_cons.mpr ⟨lw_p0, List.forall_mem_cons.mpr ⟨lw_p1, List.forall_mem_cons.mpr ⟨lw_p2, List.forall_mem_cons.mpr ⟨lw_p3, List.forall_mem_cons.mpr ⟨lw_p4, List.forall_mem_cons.mpr ⟨lw_p5, List.forall_mem_cons.mpr ⟨lw_p6, List.forall_mem_cons.mpr ⟨lw_p7, List.forall_mem_cons.mpr ⟨lw_p8, List.forall_mem_cons.mpr ⟨lw_p9, List.forall_mem_cons.mpr ⟨lw_p10, List.forall_mem_cons.mpr ⟨lw_p11, List.forall_mem_cons.mpr ⟨lw_p12, List.forall_mem_cons.mpr ⟨lw_p13, List.forall_mem_cons.mpr ⟨lw_p14, List.forall_mem_cons.mpr ⟨lw_p15, fun _ h => absurd h List.not_mem_nil⟩⟩⟩⟩⟩⟩⟩⟩⟩⟩⟩⟩⟩⟩⟩⟩
theorem lw_p16 : lw_okq (⟨"TrainingRows$Seating", "settle", "(II)I"⟩, 6) := ⟨⟨by decide +kernel, by decide +kernel⟩, List.mem_of_getElem? (i := 116) (by decide +kernel), List.mem_of_getElem? (i := 525) (by decide +kernel), List.mem_of_getElem? (i := 526) (by decide +kernel)⟩
theorem lw_p17 : lw_okq (⟨"TrainingRows$Seating", "moveTo", "(III)Z"⟩, 6) := ⟨⟨by decide +kernel, by decide +kernel⟩, List.mem_of_getElem? (i := 116) (by decide +kernel), List.mem_of_getElem? (i := 529) (by decide +kernel), List.mem_of_getElem? (i := 530) (by decide +kernel)⟩
theorem lw_p18 : lw_okq (⟨"TrainingRows$Seating", "leave", "(II)V"⟩, 6) := ⟨⟨by decide +kernel, by decide +kernel⟩, List.mem_of_getElem? (i := 116) (by decide +kernel), List.mem_of_getElem? (i := 533) (by decide +kernel), List.mem_of_getElem? (i := 534) (by decide +kernel)⟩
theorem lw_p19 : lw_okq (⟨"TrainingRows$Seating", "seatOneMoreBehind", "(II)Z"⟩, 6) := ⟨⟨by decide +kernel, by decide +kernel⟩, List.mem_of_getElem? (i := 116) (by decide +kernel), List.mem_of_getElem? (i := 537) (by decide +kernel), List.mem_of_getElem? (i := 538) (by decide +kernel)⟩
theorem lw_p20 : lw_okq (⟨"TrainingRows", "allInstructorsNow", "()I"⟩, 5) := ⟨⟨by decide +kernel, by decide +kernel⟩, List.mem_of_getElem? (i := 16) (by decide +kernel), List.mem_of_getElem? (i := 564) (by decide +kernel), List.mem_of_getElem? (i := 565) (by decide +kernel)⟩
theorem lw_p21 : lw_okq (⟨"TrainingRowsModel", "throwing", "(ZZZZ)Z"⟩, 25) := ⟨⟨by decide +kernel, by decide +kernel⟩, List.mem_of_getElem? (i := 569) (by decide +kernel), List.mem_of_getElem? (i := 662) (by decide +kernel), List.mem_of_getElem? (i := 663) (by decide +kernel)⟩
theorem lw_p22 : lw_okq (⟨"TrainingRowsModel", "isCourse", "(I)Z"⟩, 25) := ⟨⟨by decide +kernel, by decide +kernel⟩, List.mem_of_getElem? (i := 569) (by decide +kernel), List.mem_of_getElem? (i := 670) (by decide +kernel), List.mem_of_getElem? (i := 671) (by decide +kernel)⟩
theorem lw_p23 : lw_okq (⟨"TrainingRowsModel", "reaches", "(II)Z"⟩, 25) := ⟨⟨by decide +kernel, by decide +kernel⟩, List.mem_of_getElem? (i := 569) (by decide +kernel), List.mem_of_getElem? (i := 674) (by decide +kernel), List.mem_of_getElem? (i := 675) (by decide +kernel)⟩
theorem lw_p24 : lw_okq (⟨"TrainingRowsModel", "isPair", "(II)Z"⟩, 25) := ⟨⟨by decide +kernel, by decide +kernel⟩, List.mem_of_getElem? (i := 569) (by decide +kernel), List.mem_of_getElem? (i := 694) (by decide +kernel), List.mem_of_getElem? (i := 695) (by decide +kernel)⟩
theorem lw_p25 : lw_okq (⟨"TrainingRowsModel", "reason", "(II)I"⟩, 25) := ⟨⟨by decide +kernel, by decide +kernel⟩, List.mem_of_getElem? (i := 569) (by decide +kernel), List.mem_of_getElem? (i := 698) (by decide +kernel), List.mem_of_getElem? (i := 699) (by decide +kernel)⟩
theorem lw_p26 : lw_okq (⟨"TrainingRowsModel", "isHeld", "(III)Z"⟩, 25) := ⟨⟨by decide +kernel, by decide +kernel⟩, List.mem_of_getElem? (i := 569) (by decide +kernel), List.mem_of_getElem? (i := 702) (by decide +kernel), List.mem_of_getElem? (i := 703) (by decide +kernel)⟩
theorem lw_p27 : lw_okq (⟨"TrainingRowsModel", "passOf", "(III)I"⟩, 25) := ⟨⟨by decide +kernel, by decide +kernel⟩, List.mem_of_getElem? (i := 569) (by decide +kernel), List.mem_of_getElem? (i := 706) (by decide +kernel), List.mem_of_getElem? (i := 707) (by decide +kernel)⟩
theorem lw_p28 : lw_okq (⟨"TrainingRowsModel", "lapseOf", "(II)I"⟩, 25) := ⟨⟨by decide +kernel, by decide +kernel⟩, List.mem_of_getElem? (i := 569) (by decide +kernel), List.mem_of_getElem? (i := 710) (by decide +kernel), List.mem_of_getElem? (i := 711) (by decide +kernel)⟩
theorem lw_p29 : lw_okq (⟨"TrainingRowsModel", "failsOf", "(II)I"⟩, 25) := ⟨⟨by decide +kernel, by decide +kernel⟩, List.mem_of_getElem? (i := 569) (by decide +kernel), List.mem_of_getElem? (i := 714) (by decide +kernel), List.mem_of_getElem? (i := 715) (by decide +kernel)⟩
theorem lw_p30 : lw_okq (⟨"TrainingRowsModel", "latest", "(II)I"⟩, 25) := ⟨⟨by decide +kernel, by decide +kernel⟩, List.mem_of_getElem? (i := 569) (by decide +kernel), List.mem_of_getElem? (i := 718) (by decide +kernel), List.mem_of_getElem? (i := 719) (by decide +kernel)⟩
theorem lw_p31 : lw_okq (⟨"TrainingRowsModel", "roomOf", "(I)I"⟩, 25) := ⟨⟨by decide +kernel, by decide +kernel⟩, List.mem_of_getElem? (i := 569) (by decide +kernel), List.mem_of_getElem? (i := 722) (by decide +kernel), List.mem_of_getElem? (i := 723) (by decide +kernel)⟩
def lw_privs_2 : List (MethodName × Nat) := [(⟨"TrainingRows$Seating", "settle", "(II)I"⟩, 6), (⟨"TrainingRows$Seating", "moveTo", "(III)Z"⟩, 6), (⟨"TrainingRows$Seating", "leave", "(II)V"⟩, 6), (⟨"TrainingRows$Seating", "seatOneMoreBehind", "(II)Z"⟩, 6), (⟨"TrainingRows", "allInstructorsNow", "()I"⟩, 5), (⟨"TrainingRowsModel", "throwing", "(ZZZZ)Z"⟩, 25), (⟨"TrainingRowsModel", "isCourse", "(I)Z"⟩, 25), (⟨"TrainingRowsModel", "reaches", "(II)Z"⟩, 25), (⟨"TrainingRowsModel", "isPair", "(II)Z"⟩, 25), (⟨"TrainingRowsModel", "reason", "(II)I"⟩, 25), (⟨"TrainingRowsModel", "isHeld", "(III)Z"⟩, 25), (⟨"TrainingRowsModel", "passOf", "(III)I"⟩, 25), (⟨"TrainingRowsModel", "lapseOf", "(II)I"⟩, 25), (⟨"TrainingRowsModel", "failsOf", "(II)I"⟩, 25), (⟨"TrainingRowsModel", "latest", "(II)I"⟩, 25), (⟨"TrainingRowsModel", "roomOf", "(I)I"⟩, 25)]
theorem lw_r2 : ∀ q ∈ lw_privs_2, lw_okq q := List.forall_mem_cons.mpr ⟨lw_p16, List.forall_mem_cons.mpr ⟨lw_p17, List.forall_mem_cons.mpr ⟨lw_p18, List.forall_mem_cons.mpr ⟨lw_p19, List.forall_mem_cons.mpr ⟨lw_p20, List.forall_mem_cons.mpr ⟨lw_p21, List.forall_mem_cons.mpr ⟨lw_p22, List.forall_mem_cons.mpr ⟨lw_p23, List.forall_mem_cons.mpr ⟨lw_p24, List.forall_mem_cons.mpr ⟨lw_p25, List.forall_mem_cons.mpr ⟨lw_p26, List.forall_mem_cons.mpr ⟨lw_p27, List.forall_mem_cons.mpr ⟨lw_p28, List.forall_mem_cons.mpr ⟨lw_p29, List.forall_mem_cons.mpr ⟨lw_p30, List.forall_mem_cons.mpr ⟨lw_p31, fun _ h => absurd h List.not_mem_nil⟩⟩⟩⟩⟩⟩⟩⟩⟩⟩⟩⟩⟩⟩⟩⟩
theorem lw_p32 : lw_okq (⟨"TrainingRowsModel", "counts", "(II)Z"⟩, 25) := ⟨⟨by decide +kernel, by decide +kernel⟩, List.mem_of_getElem? (i := 569) (by decide +kernel), List.mem_of_getElem? (i := 726) (by decide +kernel), List.mem_of_getElem? (i := 727) (by decide +kernel)⟩
theorem lw_p33 : lw_okq (⟨"TrainingRowsModel", "add", "(IIZ)I"⟩, 25) := ⟨⟨by decide +kernel, by decide +kernel⟩, List.mem_of_getElem? (i := 569) (by decide +kernel), List.mem_of_getElem? (i := 730) (by decide +kernel), List.mem_of_getElem? (i := 731) (by decide +kernel)⟩
theorem lw_p34 : lw_okq (⟨"TrainingRowsModel", "most", "(I)I"⟩, 25) := ⟨⟨by decide +kernel, by decide +kernel⟩, List.mem_of_getElem? (i := 569) (by decide +kernel), List.mem_of_getElem? (i := 770) (by decide +kernel), List.mem_of_getElem? (i := 771) (by decide +kernel)⟩
theorem lw_p35 : lw_okq (⟨"TrainingRowsModel", "seat", "(I)Z"⟩, 25) := ⟨⟨by decide +kernel, by decide +kernel⟩, List.mem_of_getElem? (i := 569) (by decide +kernel), List.mem_of_getElem? (i := 774) (by decide +kernel), List.mem_of_getElem? (i := 775) (by decide +kernel)⟩
theorem lw_p36 : lw_okq (⟨"TrainingRowsModel", "fixedTo", "(I)I"⟩, 25) := ⟨⟨by decide +kernel, by decide +kernel⟩, List.mem_of_getElem? (i := 569) (by decide +kernel), List.mem_of_getElem? (i := 778) (by decide +kernel), List.mem_of_getElem? (i := 779) (by decide +kernel)⟩
theorem lw_p37 : lw_okq (⟨"TrainingRowsModel", "shift", "(II)V"⟩, 25) := ⟨⟨by decide +kernel, by decide +kernel⟩, List.mem_of_getElem? (i := 569) (by decide +kernel), List.mem_of_getElem? (i := 782) (by decide +kernel), List.mem_of_getElem? (i := 783) (by decide +kernel)⟩
theorem lw_p38 : lw_okq (⟨"TrainingRowsModel", "onSeat", "(I)I"⟩, 25) := ⟨⟨by decide +kernel, by decide +kernel⟩, List.mem_of_getElem? (i := 569) (by decide +kernel), List.mem_of_getElem? (i := 786) (by decide +kernel), List.mem_of_getElem? (i := 787) (by decide +kernel)⟩
def lw_privs_3 : List (MethodName × Nat) := [(⟨"TrainingRowsModel", "counts", "(II)Z"⟩, 25), (⟨"TrainingRowsModel", "add", "(IIZ)I"⟩, 25), (⟨"TrainingRowsModel", "most", "(I)I"⟩, 25), (⟨"TrainingRowsModel", "seat", "(I)Z"⟩, 25), (⟨"TrainingRowsModel", "fixedTo", "(I)I"⟩, 25), (⟨"TrainingRowsModel", "shift", "(II)V"⟩, 25), (⟨"TrainingRowsModel", "onSeat", "(I)I"⟩, 25)]
theorem lw_r3 : ∀ q ∈ lw_privs_3, lw_okq q := List.forall_mem_cons.mpr ⟨lw_p32, List.forall_mem_cons.mpr ⟨lw_p33, List.forall_mem_cons.mpr ⟨lw_p34, List.forall_mem_cons.mpr ⟨lw_p35, List.forall_mem_cons.mpr ⟨lw_p36, List.forall_mem_cons.mpr ⟨lw_p37, List.forall_mem_cons.mpr ⟨lw_p38, fun _ h => absurd h List.not_mem_nil⟩⟩⟩⟩⟩⟩⟩
def lw_privs : List (MethodName × Nat) := lw_privs_1 ++ (lw_privs_2 ++ (lw_privs_3))
def lw_tbl : List Cond := k2_sels lw_privs ++ tables_1
theorem lw_privs_ok : ∀ q ∈ lw_privs, lw_okq q := by
  show ∀ q ∈ lw_privs_1 ++ (lw_privs_2 ++ (lw_privs_3)), lw_okq q
  exact List.forall_mem_append.mpr ⟨lw_r1, List.forall_mem_append.mpr ⟨lw_r2, lw_r3⟩⟩
end
section
/-! the classes: names, fields in order, types -/
def jT0 : u_T := fun k => match k with
  | 0 => ("TrainingRows$Courses", "terms", "[I", true)
  | 1 => ("TrainingRows$Courses", "passMarks", "[I", true)
  | 2 => ("TrainingRows$Courses", "caps", "[I", true)
  | 3 => ("TrainingRows$Courses", "ratios", "[I", true)
  | 4 => ("TrainingRows$Courses", "needs", "[I", true)
  | 5 => ("TrainingRows$Courses", "needsByWay", "[I", true)
  | 6 => ("TrainingRows$Courses", "instructors", "[I", true)
  | 7 => ("TrainingRows$Courses", "resultsToday", "[I", true)
  | 8 => ("TrainingRows$Courses", "started", "[Z", true)
  | _ => ("TrainingRows$Courses", "number", "I", false)
def jY0 : Nat → FieldType := fun k => match k with
  | 0 => .array .int
  | 1 => .array .int
  | 2 => .array .int
  | 3 => .array .int
  | 4 => .array .int
  | 5 => .array .int
  | 6 => .array .int
  | 7 => .array .int
  | 8 => .array .boolean
  | _ => .int
def jT1 : u_T := fun k => match k with
  | 0 => ("TrainingRows$Records", "days", "[I", true)
  | 1 => ("TrainingRows$Records", "passBefore", "[I", true)
  | 2 => ("TrainingRows$Records", "putOff", "[I", true)
  | 3 => ("TrainingRows$Records", "latestPass", "[I", true)
  | 4 => ("TrainingRows$Records", "latestTryDay", "[I", true)
  | 5 => ("TrainingRows$Records", "fails", "[I", true)
  | 6 => ("TrainingRows$Records", "usedDay", "[I", true)
  | 7 => ("TrainingRows$Records", "results", "I", false)
  | _ => ("TrainingRows$Records", "passes", "I", false)
def jY1 : Nat → FieldType := fun k => match k with
  | 0 => .array .int
  | 1 => .array .int
  | 2 => .array .int
  | 3 => .array .int
  | 4 => .array .int
  | 5 => .array .int
  | 6 => .array .int
  | 7 => .int
  | _ => .int
def jT2 : u_T := fun k => match k with
  | 0 => ("TrainingRows$Seating", "fits", "[I", true)
  | 1 => ("TrainingRows$Seating", "personOn", "[I", true)
  | 2 => ("TrainingRows$Seating", "seatOf", "[I", true)
  | 3 => ("TrainingRows$Seating", "queue", "[I", true)
  | 4 => ("TrainingRows$Seating", "reachedFrom", "[I", true)
  | _ => ("TrainingRows$Seating", "seats", "I", false)
def jY2 : Nat → FieldType := fun k => match k with
  | 0 => .array .int
  | 1 => .array .int
  | 2 => .array .int
  | 3 => .array .int
  | 4 => .array .int
  | _ => .int
def jT3 : u_T := fun k => match k with
  | 0 => ("TrainingRows", "courses", "LTrainingRows$Courses;", true)
  | 1 => ("TrainingRows", "records", "LTrainingRows$Records;", true)
  | 2 => ("TrainingRows", "seating", "LTrainingRows$Seating;", true)
  | 3 => ("TrainingRows", "today", "I", false)
  | _ => ("TrainingRows", "pauseDays", "I", false)
def jY3 : Nat → FieldType := fun k => match k with
  | 0 => .object "TrainingRows$Courses"
  | 1 => .object "TrainingRows$Records"
  | 2 => .object "TrainingRows$Seating"
  | 3 => .int
  | _ => .int
def jT4 : u_T := fun k => match k with
  | 0 => ("TrainingRowsModel", "thrown", "I", false)
  | 1 => ("TrainingRowsModel", "day", "I", false)
  | 2 => ("TrainingRowsModel", "pause", "I", false)
  | 3 => ("TrainingRowsModel", "courses", "I", false)
  | 4 => ("TrainingRowsModel", "term", "[I", true)
  | 5 => ("TrainingRowsModel", "pass", "[I", true)
  | 6 => ("TrainingRowsModel", "cap", "[I", true)
  | 7 => ("TrainingRowsModel", "ratio", "[I", true)
  | 8 => ("TrainingRowsModel", "needs", "[Z", true)
  | 9 => ("TrainingRowsModel", "teaches", "[Z", true)
  | 10 => ("TrainingRowsModel", "results", "I", false)
  | 11 => ("TrainingRowsModel", "who", "[I", true)
  | 12 => ("TrainingRowsModel", "of", "[I", true)
  | 13 => ("TrainingRowsModel", "when", "[I", true)
  | 14 => ("TrainingRowsModel", "passed", "[Z", true)
  | 15 => ("TrainingRowsModel", "puts", "[I", true)
  | 16 => ("TrainingRowsModel", "put", "[I", true)
  | 17 => ("TrainingRowsModel", "used", "[I", true)
  | 18 => ("TrainingRowsModel", "seats", "I", false)
  | 19 => ("TrainingRowsModel", "seated", "[I", true)
  | 20 => ("TrainingRowsModel", "fixed", "[I", true)
  | 21 => ("TrainingRowsModel", "sits", "[I", true)
  | 22 => ("TrainingRowsModel", "can", "[Z", true)
  | 23 => ("TrainingRowsModel", "from", "[I", true)
  | _ => ("TrainingRowsModel", "queue", "[I", true)
def jY4 : Nat → FieldType := fun k => match k with
  | 0 => .int
  | 1 => .int
  | 2 => .int
  | 3 => .int
  | 4 => .array .int
  | 5 => .array .int
  | 6 => .array .int
  | 7 => .array .int
  | 8 => .array .boolean
  | 9 => .array .boolean
  | 10 => .int
  | 11 => .array .int
  | 12 => .array .int
  | 13 => .array .int
  | 14 => .array .boolean
  | 15 => .array .int
  | 16 => .array .int
  | 17 => .array .int
  | 18 => .int
  | 19 => .array .int
  | 20 => .array .int
  | 21 => .array .int
  | 22 => .array .boolean
  | 23 => .array .int
  | _ => .array .int
abbrev jCl : List vw_C := [("TrainingRows$Courses", jT0, 10), ("TrainingRows$Records", jT1, 9), ("TrainingRows$Seating", jT2, 6), ("TrainingRows", jT3, 5), ("TrainingRowsModel", jT4, 25)]
def jYs : List (Nat → FieldType) := [jY0, jY1, jY2, jY3, jY4]
def jcn (c : Nat) : String := (["TrainingRows$Courses", "TrainingRows$Records", "TrainingRows$Seating", "TrainingRows", "TrainingRowsModel", "TrainingRowsLaw", "java/util/Arrays", "java/lang/Math"] : List String).getD c ""
/-! the methods -/
def jN : List MethodName := [⟨"java/util/Arrays", "fill", "([II)V"⟩,
  ⟨"java/lang/Math", "max", "(II)I"⟩,
  ⟨"java/lang/Math", "min", "(II)I"⟩,
  ⟨"TrainingRows$Courses", "<init>", "()V"⟩,
  ⟨"TrainingRows$Courses", "isFull", "()Z"⟩,
  ⟨"TrainingRows$Courses", "add", "(III)I"⟩,
  ⟨"TrainingRows$Courses", "wouldNeedItself", "(II)Z"⟩,
  ⟨"TrainingRows$Courses", "addNeed", "(II)V"⟩,
  ⟨"TrainingRows$Courses", "noteResult", "(I)V"⟩,
  ⟨"TrainingRows$Courses", "forgetResultsToday", "()V"⟩,
  ⟨"TrainingRows$Records", "<init>", "()V"⟩,
  ⟨"TrainingRows$Records", "isFull", "()Z"⟩,
  ⟨"TrainingRows$Records", "addResult", "(IIZ)I"⟩,
  ⟨"TrainingRows$Records", "addUse", "(III)I"⟩,
  ⟨"TrainingRows$Records", "latestPassUpTo", "(II)I"⟩,
  ⟨"TrainingRows$Seating", "<init>", "()V"⟩,
  ⟨"TrainingRows$Seating", "clear", "(I)V"⟩,
  ⟨"TrainingRows$Seating", "fill", "()I"⟩,
  ⟨"TrainingRows$Seating", "settle", "(II)I"⟩,
  ⟨"TrainingRows$Seating", "moveTo", "(III)Z"⟩,
  ⟨"TrainingRows$Seating", "sit", "(II)V"⟩,
  ⟨"TrainingRows$Seating", "leave", "(II)V"⟩,
  ⟨"TrainingRows$Seating", "seatOneMoreBehind", "(II)Z"⟩,
  ⟨"TrainingRows$Seating", "seatOneMore", "(II)Z"⟩,
  ⟨"TrainingRows$Seating", "moveAlong", "(I)V"⟩,
  ⟨"TrainingRows", "<init>", "()V"⟩,
  ⟨"TrainingRows", "course", "(III)I"⟩,
  ⟨"TrainingRows", "need", "(II)V"⟩,
  ⟨"TrainingRows", "pause", "(I)V"⟩,
  ⟨"TrainingRows", "day", "(I)V"⟩,
  ⟨"TrainingRows", "ratio", "(II)V"⟩,
  ⟨"TrainingRows", "result", "(III)I"⟩,
  ⟨"TrainingRows", "found", "(II)I"⟩,
  ⟨"TrainingRows", "teach", "(IIZ)V"⟩,
  ⟨"TrainingRows", "use", "(II)I"⟩,
  ⟨"TrainingRows", "holds", "(III)Z"⟩,
  ⟨"TrainingRows", "lapse", "(II)I"⟩,
  ⟨"TrainingRows", "failed", "(II)I"⟩,
  ⟨"TrainingRows", "barred", "(II)I"⟩,
  ⟨"TrainingRows", "room", "(I)I"⟩,
  ⟨"TrainingRows", "plan", "(JII)I"⟩,
  ⟨"TrainingRows", "seated", "(I)I"⟩,
  ⟨"TrainingRows", "tomorrow", "(II)I"⟩,
  ⟨"TrainingRows", "count", "(I)I"⟩,
  ⟨"TrainingRows", "requireCourse", "(I)V"⟩,
  ⟨"TrainingRows", "requirePair", "(II)V"⟩,
  ⟨"TrainingRows", "requireRange", "(III)V"⟩,
  ⟨"TrainingRows", "requireRoomForResult", "()V"⟩,
  ⟨"TrainingRows", "pairOf", "(II)I"⟩,
  ⟨"TrainingRows", "isIn", "(II)Z"⟩,
  ⟨"TrainingRows", "courseOfSeat", "(JI)I"⟩,
  ⟨"TrainingRows", "addResult", "(IIZ)I"⟩,
  ⟨"TrainingRows", "lapseNow", "(II)I"⟩,
  ⟨"TrainingRows", "lapseOf", "(II)I"⟩,
  ⟨"TrainingRows", "holdsNow", "(II)Z"⟩,
  ⟨"TrainingRows", "whyBarred", "(II)I"⟩,
  ⟨"TrainingRows", "holdsNeeds", "(II)Z"⟩,
  ⟨"TrainingRows", "roomNow", "(I)I"⟩,
  ⟨"TrainingRows", "instructorsNow", "(I)I"⟩,
  ⟨"TrainingRows", "allInstructorsNow", "()I"⟩,
  ⟨"TrainingRows", "personsToRenew", "(II)I"⟩,
  ⟨"TrainingRowsModel", "<init>", "()V"⟩,
  ⟨"TrainingRowsModel", "thrown", "()I"⟩,
  ⟨"TrainingRowsModel", "throwing", "(ZZZZ)Z"⟩,
  ⟨"TrainingRowsModel", "in", "(III)Z"⟩,
  ⟨"TrainingRowsModel", "isCourse", "(I)Z"⟩,
  ⟨"TrainingRowsModel", "isPair", "(II)Z"⟩,
  ⟨"TrainingRowsModel", "course", "(III)I"⟩,
  ⟨"TrainingRowsModel", "reaches", "(II)Z"⟩,
  ⟨"TrainingRowsModel", "need", "(II)V"⟩,
  ⟨"TrainingRowsModel", "pause", "(I)V"⟩,
  ⟨"TrainingRowsModel", "day", "(I)V"⟩,
  ⟨"TrainingRowsModel", "ratio", "(II)V"⟩,
  ⟨"TrainingRowsModel", "passOf", "(III)I"⟩,
  ⟨"TrainingRowsModel", "lapseOf", "(II)I"⟩,
  ⟨"TrainingRowsModel", "isHeld", "(III)Z"⟩,
  ⟨"TrainingRowsModel", "failsOf", "(II)I"⟩,
  ⟨"TrainingRowsModel", "latest", "(II)I"⟩,
  ⟨"TrainingRowsModel", "reason", "(II)I"⟩,
  ⟨"TrainingRowsModel", "counts", "(II)Z"⟩,
  ⟨"TrainingRowsModel", "roomOf", "(I)I"⟩,
  ⟨"TrainingRowsModel", "add", "(IIZ)I"⟩,
  ⟨"TrainingRowsModel", "result", "(III)I"⟩,
  ⟨"TrainingRowsModel", "found", "(II)I"⟩,
  ⟨"TrainingRowsModel", "teach", "(IIZ)V"⟩,
  ⟨"TrainingRowsModel", "use", "(II)I"⟩,
  ⟨"TrainingRowsModel", "holds", "(III)Z"⟩,
  ⟨"TrainingRowsModel", "lapse", "(II)I"⟩,
  ⟨"TrainingRowsModel", "failed", "(II)I"⟩,
  ⟨"TrainingRowsModel", "barred", "(II)I"⟩,
  ⟨"TrainingRowsModel", "room", "(I)I"⟩,
  ⟨"TrainingRowsModel", "seat", "(I)Z"⟩,
  ⟨"TrainingRowsModel", "shift", "(II)V"⟩,
  ⟨"TrainingRowsModel", "onSeat", "(I)I"⟩,
  ⟨"TrainingRowsModel", "fixedTo", "(I)I"⟩,
  ⟨"TrainingRowsModel", "most", "(I)I"⟩,
  ⟨"TrainingRowsModel", "plan", "(JII)I"⟩,
  ⟨"TrainingRowsModel", "seated", "(I)I"⟩,
  ⟨"TrainingRowsModel", "tomorrow", "(II)I"⟩,
  ⟨"TrainingRowsModel", "count", "(I)I"⟩,
  ⟨"TrainingRowsLaw", "course", "(LTrainingRows;III[J)I"⟩,
  ⟨"TrainingRowsLaw", "need", "(LTrainingRows;II)I"⟩,
  ⟨"TrainingRowsLaw", "pause", "(LTrainingRows;I)I"⟩,
  ⟨"TrainingRowsLaw", "day", "(LTrainingRows;I)I"⟩,
  ⟨"TrainingRowsLaw", "ratio", "(LTrainingRows;II)I"⟩,
  ⟨"TrainingRowsLaw", "result", "(LTrainingRows;III[J)I"⟩,
  ⟨"TrainingRowsLaw", "found", "(LTrainingRows;II[J)I"⟩,
  ⟨"TrainingRowsLaw", "teach", "(LTrainingRows;IIZ)I"⟩,
  ⟨"TrainingRowsLaw", "use", "(LTrainingRows;II[J)I"⟩,
  ⟨"TrainingRowsLaw", "holds", "(LTrainingRows;III[J)I"⟩,
  ⟨"TrainingRowsLaw", "lapse", "(LTrainingRows;II[J)I"⟩,
  ⟨"TrainingRowsLaw", "failed", "(LTrainingRows;II[J)I"⟩,
  ⟨"TrainingRowsLaw", "barred", "(LTrainingRows;II[J)I"⟩,
  ⟨"TrainingRowsLaw", "room", "(LTrainingRows;I[J)I"⟩,
  ⟨"TrainingRowsLaw", "plan", "(LTrainingRows;JII[J)I"⟩,
  ⟨"TrainingRowsLaw", "seated", "(LTrainingRows;I[J)I"⟩,
  ⟨"TrainingRowsLaw", "tomorrow", "(LTrainingRows;II[J)I"⟩,
  ⟨"TrainingRowsLaw", "count", "(LTrainingRows;I[J)I"⟩,
  ⟨"TrainingRowsLaw", "law", "([I)Z"⟩]
def jB : List ByteArray := [prog_16_method_103_code, prog_11_method_65_code, prog_11_method_69_code, prog_2_method_1_code, prog_2_method_2_code, prog_2_method_3_code, prog_2_method_4_code, prog_2_method_5_code, prog_2_method_6_code, prog_2_method_7_code, prog_3_method_1_code, prog_3_method_2_code, prog_3_method_3_code, prog_3_method_4_code, prog_3_method_5_code, prog_4_method_1_code, prog_4_method_2_code, prog_4_method_3_code, prog_4_method_4_code, prog_4_method_5_code, prog_4_method_6_code, prog_4_method_7_code, prog_4_method_8_code, prog_4_method_9_code, prog_4_method_10_code, prog_1_method_1_code, prog_1_method_2_code, prog_1_method_3_code, prog_1_method_4_code, prog_1_method_5_code, prog_1_method_6_code, prog_1_method_7_code, prog_1_method_8_code, prog_1_method_9_code, prog_1_method_10_code, prog_1_method_11_code, prog_1_method_12_code, prog_1_method_13_code, prog_1_method_14_code, prog_1_method_15_code, prog_1_method_16_code, prog_1_method_17_code, prog_1_method_18_code, prog_1_method_19_code, prog_1_method_20_code, prog_1_method_21_code, prog_1_method_22_code, prog_1_method_23_code, prog_1_method_24_code, prog_1_method_25_code, prog_1_method_26_code, prog_1_method_27_code, prog_1_method_28_code, prog_1_method_29_code, prog_1_method_30_code, prog_1_method_31_code, prog_1_method_32_code, prog_1_method_33_code, prog_1_method_34_code, prog_1_method_35_code, prog_1_method_36_code, prog_6_method_1_code, prog_6_method_2_code, prog_6_method_3_code, prog_6_method_4_code, prog_6_method_5_code, prog_6_method_6_code, prog_6_method_7_code, prog_6_method_8_code, prog_6_method_9_code, prog_6_method_10_code, prog_6_method_11_code, prog_6_method_12_code, prog_6_method_13_code, prog_6_method_14_code, prog_6_method_15_code, prog_6_method_16_code, prog_6_method_17_code, prog_6_method_18_code, prog_6_method_19_code, prog_6_method_20_code, prog_6_method_21_code, prog_6_method_22_code, prog_6_method_23_code, prog_6_method_24_code, prog_6_method_25_code, prog_6_method_26_code, prog_6_method_27_code, prog_6_method_28_code, prog_6_method_29_code, prog_6_method_30_code, prog_6_method_31_code, prog_6_method_32_code, prog_6_method_33_code, prog_6_method_34_code, prog_6_method_35_code, prog_6_method_36_code, prog_6_method_37_code, prog_6_method_38_code, prog_6_method_39_code, method_3_code, method_4_code, method_5_code, method_6_code, method_7_code, method_8_code, method_9_code, method_10_code, method_11_code, method_12_code, method_13_code, method_14_code, method_15_code, method_16_code, method_17_code, method_18_code, method_19_code, method_20_code, code]
def jL : List Nat := [4, 2, 2, 1, 1, 5, 3, 5, 2, 1, 1, 1, 5, 5, 5, 1, 2, 4, 5, 6, 3, 3, 4, 8, 6, 1, 4, 3, 2, 2, 3, 4, 3, 4, 3, 4, 3, 3, 3, 2, 7, 2, 5, 2, 2, 3, 3, 1, 2, 2, 3, 4, 3, 3, 3, 5, 4, 3, 4, 3, 6, 2, 1, 5, 3, 2, 3, 4, 7, 4, 2, 2, 3, 6, 5, 5, 5, 5, 4, 3, 4, 4, 6, 6, 5, 5, 4, 4, 3, 3, 2, 7, 6, 4, 4, 4, 11, 2, 5, 6, 6, 4, 3, 3, 4, 6, 5, 5, 5, 6, 5, 5, 5, 4, 7, 4, 5, 4, 7]
def jRt : List (Option FieldType) := [none, some .int, some .int, none, some .boolean, some .int, some .boolean, none, none, none, none, some .boolean, some .int, some .int, some .int, none, none, some .int, some .int, some .boolean, none, none, some .boolean, some .boolean, none, none, some .int, none, none, none, none, some .int, some .int, none, some .int, some .boolean, some .int, some .int, some .int, some .int, some .int, some .int, some .int, some .int, none, none, none, none, some .int, some .boolean, some .int, some .int, some .int, some .int, some .boolean, some .int, some .boolean, some .int, some .int, some .int, some .int, none, some .int, some .boolean, some .boolean, some .boolean, some .boolean, some .int, some .boolean, none, none, none, none, some .int, some .int, some .boolean, some .int, some .int, some .int, some .boolean, some .int, some .int, some .int, some .int, none, some .int, some .boolean, some .int, some .int, some .int, some .int, some .boolean, none, some .int, some .int, some .int, some .int, some .int, some .int, some .int, some .int, some .int, some .int, some .int, some .int, some .int, some .int, some .int, some .int, some .int, some .int, some .int, some .int, some .int, some .int, some .int, some .int, some .int, some .boolean]
def jHs : List (List (Nat × Nat × Nat × Nat)) := [[], [], [], [], [], [], [], [], [], [], [], [], [], [], [], [], [], [], [], [], [], [], [], [], [], [], [], [], [], [], [], [], [], [], [], [], [], [], [], [], [], [], [], [], [], [], [], [], [], [], [], [], [], [], [], [], [], [], [], [], [], [], [], [], [], [], [], [], [], [], [], [], [], [], [], [], [], [], [], [], [], [], [], [], [], [], [], [], [], [], [], [], [], [], [], [], [], [], [], [], [(0, 12, 15, 13), (0, 12, 19, 15)], [(0, 6, 9, 21), (0, 6, 12, 23)], [(0, 5, 8, 13)], [(0, 5, 8, 13)], [(0, 6, 9, 21), (0, 6, 12, 13)], [(0, 12, 15, 21), (0, 12, 19, 13), (0, 12, 23, 23), (0, 12, 27, 15)], [(0, 10, 13, 21), (0, 10, 17, 23), (0, 10, 21, 15)], [(0, 7, 10, 21), (0, 7, 14, 23)], [(0, 10, 13, 21), (0, 10, 17, 23)], [(0, 19, 22, 21), (0, 19, 26, 13)], [(0, 10, 13, 21)], [(0, 10, 13, 21)], [(0, 10, 13, 21)], [(0, 9, 12, 21)], [(0, 13, 16, 21), (0, 13, 20, 13)], [(0, 9, 12, 21)], [(0, 10, 13, 21), (0, 10, 17, 13)], [(0, 9, 12, 21)], []]
def jCs : List Nat := [6, 7, 7, 0, 0, 0, 0, 0, 0, 0, 1, 1, 1, 1, 1, 2, 2, 2, 2, 2, 2, 2, 2, 2, 2, 3, 3, 3, 3, 3, 3, 3, 3, 3, 3, 3, 3, 3, 3, 3, 3, 3, 3, 3, 3, 3, 3, 3, 3, 3, 3, 3, 3, 3, 3, 3, 3, 3, 3, 3, 3, 4, 4, 4, 4, 4, 4, 4, 4, 4, 4, 4, 4, 4, 4, 4, 4, 4, 4, 4, 4, 4, 4, 4, 4, 4, 4, 4, 4, 4, 4, 4, 4, 4, 4, 4, 4, 4, 4, 4, 5, 5, 5, 5, 5, 5, 5, 5, 5, 5, 5, 5, 5, 5, 5, 5, 5, 5, 5]
def jPs : List Nat := [2, 2, 2, 0, 0, 3, 2, 2, 1, 0, 0, 0, 3, 3, 2, 0, 1, 0, 2, 3, 2, 2, 2, 2, 1, 0, 3, 2, 1, 1, 2, 3, 2, 3, 2, 3, 2, 2, 2, 1, 3, 1, 2, 1, 1, 2, 3, 0, 2, 2, 2, 3, 2, 2, 2, 2, 2, 1, 1, 0, 2, 0, 0, 4, 3, 1, 2, 3, 2, 2, 1, 1, 2, 3, 2, 3, 2, 2, 2, 2, 1, 3, 3, 2, 3, 2, 3, 2, 2, 2, 1, 1, 2, 1, 1, 1, 3, 1, 2, 1, 5, 3, 2, 2, 3, 5, 4, 4, 4, 5, 4, 4, 4, 3, 5, 3, 4, 3, 1]
def jFL : List ((Nat × Nat) × Nat × Nat) := [((0, 9), 0, 0), ((0, 15), 0, 1), ((0, 18), 0, 2), ((0, 21), 0, 3), ((0, 24), 0, 4), ((0, 27), 0, 5), ((0, 30), 0, 6), ((0, 33), 0, 7), ((0, 36), 0, 8), ((0, 40), 0, 9), ((1, 9), 1, 0), ((1, 15), 1, 1), ((1, 18), 1, 2), ((1, 21), 1, 3), ((1, 24), 1, 4), ((1, 27), 1, 5), ((1, 30), 1, 6), ((1, 39), 1, 7), ((1, 43), 1, 8), ((2, 9), 2, 0), ((2, 15), 2, 1), ((2, 18), 2, 2), ((2, 21), 2, 3), ((2, 24), 2, 4), ((2, 27), 2, 5), ((3, 12), 3, 0), ((3, 19), 3, 1), ((3, 26), 3, 2), ((3, 30), 3, 3), ((3, 34), 3, 4), ((3, 69), 0, 4), ((3, 85), 0, 3), ((3, 106), 0, 1), ((3, 113), 0, 8), ((3, 119), 0, 6), ((3, 132), 0, 2), ((3, 147), 1, 5), ((3, 162), 2, 0), ((3, 172), 2, 5), ((3, 180), 2, 1), ((3, 188), 0, 9), ((3, 191), 1, 7), ((3, 194), 1, 8), ((3, 217), 1, 3), ((3, 220), 1, 0), ((3, 223), 0, 0), ((3, 226), 1, 2), ((3, 232), 1, 4), ((3, 238), 0, 7), ((4, 7), 4, 2), ((4, 13), 4, 4), ((4, 17), 4, 5), ((4, 20), 4, 6), ((4, 23), 4, 7), ((4, 26), 4, 8), ((4, 30), 4, 9), ((4, 33), 4, 11), ((4, 36), 4, 12), ((4, 39), 4, 13), ((4, 42), 4, 14), ((4, 45), 4, 15), ((4, 48), 4, 16), ((4, 51), 4, 17), ((4, 54), 4, 19), ((4, 57), 4, 20), ((4, 60), 4, 21), ((4, 63), 4, 22), ((4, 66), 4, 23), ((4, 69), 4, 24), ((4, 72), 4, 0), ((4, 75), 4, 3), ((4, 94), 4, 1), ((4, 97), 4, 10), ((4, 144), 4, 18)]
def jCL : List ((Nat × Nat) × Nat × Nat) := [((0, 44), 4, 49), ((0, 48), 1, 0), ((1, 33), 1, 0), ((2, 31), 1, 0), ((2, 37), 0, 23), ((2, 41), 0, 18), ((2, 45), 4, 49), ((2, 48), 0, 19), ((2, 52), 0, 21), ((2, 56), 0, 20), ((2, 59), 0, 22), ((2, 62), 0, 24), ((3, 11), 5, 3), ((3, 18), 2, 10), ((3, 25), 5, 15), ((3, 37), 1, 46), ((3, 41), 0, 4), ((3, 52), 0, 5), ((3, 56), 0, 44), ((3, 60), 0, 6), ((3, 73), 1, 49), ((3, 78), 0, 7), ((3, 82), 0, 9), ((3, 88), 0, 45), ((3, 91), 0, 55), ((3, 97), 0, 57), ((3, 103), 0, 47), ((3, 109), 0, 51), ((3, 124), 0, 54), ((3, 129), 1, 48), ((3, 135), 0, 13), ((3, 138), 0, 14), ((3, 141), 0, 53), ((3, 144), 0, 52), ((3, 150), 1, 2), ((3, 155), 1, 50), ((3, 159), 0, 16), ((3, 165), 0, 60), ((3, 168), 0, 17), ((3, 197), 0, 59), ((3, 208), 0, 11), ((3, 213), 0, 8), ((3, 216), 0, 12), ((3, 229), 0, 56), ((3, 235), 0, 58), ((3, 241), 1, 1), ((4, 78), 1, 64), ((4, 82), 0, 65), ((4, 86), 0, 63), ((4, 90), 0, 68), ((4, 100), 0, 73), ((4, 104), 0, 74), ((4, 108), 0, 75), ((4, 111), 0, 76), ((4, 114), 0, 77), ((4, 117), 0, 79), ((4, 120), 0, 66), ((4, 123), 0, 78), ((4, 126), 0, 80), ((4, 130), 0, 81), ((4, 134), 0, 94), ((4, 137), 0, 92), ((4, 141), 0, 93), ((4, 147), 0, 91), ((4, 150), 0, 95), ((5, 7), 0, 26), ((5, 17), 0, 27), ((5, 25), 0, 28), ((5, 29), 0, 29), ((5, 32), 0, 30), ((5, 35), 0, 31), ((5, 38), 0, 32), ((5, 42), 0, 33), ((5, 46), 0, 34), ((5, 49), 0, 35), ((5, 53), 0, 36), ((5, 56), 0, 37), ((5, 59), 0, 38), ((5, 62), 0, 39), ((5, 66), 0, 40), ((5, 70), 0, 41), ((5, 73), 0, 42), ((5, 76), 0, 43), ((5, 79), 2, 25), ((5, 82), 2, 61), ((5, 83), 6, 100), ((5, 88), 0, 67), ((5, 89), 0, 62), ((5, 93), 6, 101), ((5, 96), 0, 69), ((5, 97), 6, 102), ((5, 100), 0, 70), ((5, 101), 6, 103), ((5, 103), 0, 71), ((5, 104), 6, 104), ((5, 106), 0, 72), ((5, 107), 6, 105), ((5, 109), 0, 82), ((5, 110), 6, 106), ((5, 113), 0, 83), ((5, 114), 6, 107), ((5, 117), 0, 84), ((5, 118), 6, 108), ((5, 120), 0, 85), ((5, 121), 6, 109), ((5, 123), 0, 86), ((5, 124), 6, 110), ((5, 126), 0, 87), ((5, 127), 6, 111), ((5, 129), 0, 88), ((5, 130), 6, 112), ((5, 132), 0, 89), ((5, 133), 6, 113), ((5, 136), 0, 90), ((5, 139), 6, 114), ((5, 142), 0, 96), ((5, 143), 6, 115), ((5, 145), 0, 97), ((5, 146), 6, 116), ((5, 148), 0, 98), ((5, 149), 6, 117), ((5, 151), 0, 99)]
def jNL : List ((Nat × Nat) × Nat) := [((3, 9), 0), ((3, 16), 1), ((3, 23), 2), ((5, 8), 3), ((5, 80), 4)]
def jIL : List (Nat × Nat) := [(0, 3), (1, 3), (2, 3), (3, 3), (4, 1)]
def jXL : List ((Nat × Nat) × Nat × Nat × Nat × String × String) := [((26, 32), 45, 47, 49, "java/lang/UnsupportedOperationException", "no room for one more course"),
  ((27, 22), 64, 66, 68, "java/lang/IllegalStateException", "the course would need itself"),
  ((27, 48), 64, 76, 68, "java/lang/IllegalStateException", "the course needs that one already"),
  ((31, 22), 64, 95, 68, "java/lang/IllegalStateException", "the person is barred"),
  ((31, 40), 45, 101, 49, "java/lang/UnsupportedOperationException", "the course has no room"),
  ((32, 18), 64, 117, 68, "java/lang/IllegalStateException", "the course has a result"),
  ((33, 23), 64, 122, 68, "java/lang/IllegalStateException", "it is so already"),
  ((33, 46), 64, 127, 68, "java/lang/IllegalStateException", "the person does not hold the course"),
  ((34, 15), 64, 127, 68, "java/lang/IllegalStateException", "the person does not hold the course"),
  ((41, 15), 175, 177, 179, "java/lang/IllegalArgumentException", "the latest plan has no such seat"),
  ((42, 9), 183, 185, 187, "java/lang/IndexOutOfBoundsException", "a place in a row is 0 at least"),
  ((43, 61), 175, 200, 179, "java/lang/IllegalArgumentException", "no such count"),
  ((44, 15), 175, 202, 179, "java/lang/IllegalArgumentException", "no such course"),
  ((45, 10), 175, 204, 179, "java/lang/IllegalArgumentException", "no such person"),
  ((46, 10), 183, 206, 187, "java/lang/IndexOutOfBoundsException", "a number is outside its range"),
  ((47, 10), 45, 209, 49, "java/lang/UnsupportedOperationException", "no room for one more result")]
def jHC : List (List (Nat × Nat × Nat × String)) := [[], [], [], [], [], [], [], [], [], [], [], [], [], [], [], [], [], [], [], [], [], [], [], [], [], [], [], [], [], [], [], [], [], [], [], [], [], [], [], [], [], [], [], [], [], [], [], [], [], [], [], [], [], [], [], [], [], [], [], [], [], [], [], [], [], [], [], [], [], [], [], [], [], [], [], [], [], [], [], [], [], [], [], [], [], [], [], [], [], [], [], [], [], [], [], [], [], [], [], [], [(0, 12, 15, "java/lang/IndexOutOfBoundsException"), (0, 12, 19, "java/lang/UnsupportedOperationException")], [(0, 6, 9, "java/lang/IllegalArgumentException"), (0, 6, 12, "java/lang/IllegalStateException")], [(0, 5, 8, "java/lang/IndexOutOfBoundsException")], [(0, 5, 8, "java/lang/IndexOutOfBoundsException")], [(0, 6, 9, "java/lang/IllegalArgumentException"), (0, 6, 12, "java/lang/IndexOutOfBoundsException")], [(0, 12, 15, "java/lang/IllegalArgumentException"), (0, 12, 19, "java/lang/IndexOutOfBoundsException"), (0, 12, 23, "java/lang/IllegalStateException"), (0, 12, 27, "java/lang/UnsupportedOperationException")], [(0, 10, 13, "java/lang/IllegalArgumentException"), (0, 10, 17, "java/lang/IllegalStateException"), (0, 10, 21, "java/lang/UnsupportedOperationException")], [(0, 7, 10, "java/lang/IllegalArgumentException"), (0, 7, 14, "java/lang/IllegalStateException")], [(0, 10, 13, "java/lang/IllegalArgumentException"), (0, 10, 17, "java/lang/IllegalStateException")], [(0, 19, 22, "java/lang/IllegalArgumentException"), (0, 19, 26, "java/lang/IndexOutOfBoundsException")], [(0, 10, 13, "java/lang/IllegalArgumentException")], [(0, 10, 13, "java/lang/IllegalArgumentException")], [(0, 10, 13, "java/lang/IllegalArgumentException")], [(0, 9, 12, "java/lang/IllegalArgumentException")], [(0, 13, 16, "java/lang/IllegalArgumentException"), (0, 13, 20, "java/lang/IndexOutOfBoundsException")], [(0, 9, 12, "java/lang/IllegalArgumentException")], [(0, 10, 13, "java/lang/IllegalArgumentException"), (0, 10, 17, "java/lang/IndexOutOfBoundsException")], [(0, 9, 12, "java/lang/IllegalArgumentException")], []]
def jMr : List Room := [{ frames := 0, cells := 0, slots := 0, locals := 0 }, { frames := 0, cells := 0, slots := 0, locals := 0 }, { frames := 0, cells := 0, slots := 0, locals := 0 }, { frames := 1, cells := 9, slots := 144, locals := 20 }, { frames := 0, cells := 0, slots := 0, locals := 0 }, { frames := 0, cells := 0, slots := 0, locals := 0 }, { frames := 1, cells := 0, slots := 0, locals := 21 }, { frames := 1, cells := 0, slots := 0, locals := 21 }, { frames := 0, cells := 0, slots := 0, locals := 0 }, { frames := 1, cells := 0, slots := 0, locals := 23 }, { frames := 1, cells := 7, slots := 2180, locals := 23 }, { frames := 0, cells := 0, slots := 0, locals := 0 }, { frames := 0, cells := 0, slots := 0, locals := 0 }, { frames := 0, cells := 0, slots := 0, locals := 0 }, { frames := 0, cells := 0, slots := 0, locals := 0 }, { frames := 1, cells := 5, slots := 76, locals := 20 }, { frames := 1, cells := 0, slots := 0, locals := 23 }, { frames := 6, cells := 0, slots := 0, locals := 146 }, { frames := 5, cells := 0, slots := 0, locals := 122 }, { frames := 4, cells := 0, slots := 0, locals := 97 }, { frames := 0, cells := 0, slots := 0, locals := 0 }, { frames := 0, cells := 0, slots := 0, locals := 0 }, { frames := 3, cells := 0, slots := 0, locals := 74 }, { frames := 2, cells := 0, slots := 0, locals := 47 }, { frames := 1, cells := 0, slots := 0, locals := 22 }, { frames := 2, cells := 24, slots := 2425, locals := 43 }, { frames := 7, cells := 1, slots := 6, locals := 112 }, { frames := 7, cells := 1, slots := 6, locals := 111 }, { frames := 7, cells := 1, slots := 6, locals := 112 }, { frames := 7, cells := 1, slots := 6, locals := 112 }, { frames := 7, cells := 1, slots := 6, locals := 112 }, { frames := 8, cells := 1, slots := 6, locals := 133 }, { frames := 8, cells := 1, slots := 6, locals := 133 }, { frames := 8, cells := 1, slots := 6, locals := 133 }, { frames := 8, cells := 1, slots := 6, locals := 133 }, { frames := 8, cells := 1, slots := 6, locals := 133 }, { frames := 8, cells := 1, slots := 6, locals := 133 }, { frames := 8, cells := 1, slots := 6, locals := 133 }, { frames := 8, cells := 1, slots := 6, locals := 133 }, { frames := 7, cells := 1, slots := 6, locals := 111 }, { frames := 7, cells := 1, slots := 6, locals := 169 }, { frames := 6, cells := 1, slots := 6, locals := 90 }, { frames := 7, cells := 1, slots := 6, locals := 111 }, { frames := 6, cells := 1, slots := 6, locals := 111 }, { frames := 6, cells := 1, slots := 6, locals := 90 }, { frames := 7, cells := 1, slots := 6, locals := 111 }, { frames := 6, cells := 1, slots := 6, locals := 90 }, { frames := 6, cells := 1, slots := 6, locals := 90 }, { frames := 0, cells := 0, slots := 0, locals := 0 }, { frames := 0, cells := 0, slots := 0, locals := 0 }, { frames := 0, cells := 0, slots := 0, locals := 0 }, { frames := 1, cells := 0, slots := 0, locals := 24 }, { frames := 1, cells := 0, slots := 0, locals := 22 }, { frames := 0, cells := 0, slots := 0, locals := 0 }, { frames := 2, cells := 0, slots := 0, locals := 44 }, { frames := 4, cells := 0, slots := 0, locals := 89 }, { frames := 3, cells := 0, slots := 0, locals := 66 }, { frames := 4, cells := 0, slots := 0, locals := 89 }, { frames := 3, cells := 0, slots := 0, locals := 66 }, { frames := 4, cells := 0, slots := 0, locals := 89 }, { frames := 2, cells := 0, slots := 0, locals := 44 }, { frames := 1, cells := 19, slots := 17784, locals := 20 }, { frames := 0, cells := 0, slots := 0, locals := 0 }, { frames := 0, cells := 0, slots := 0, locals := 0 }, { frames := 0, cells := 0, slots := 0, locals := 0 }, { frames := 1, cells := 0, slots := 0, locals := 22 }, { frames := 2, cells := 0, slots := 0, locals := 43 }, { frames := 1, cells := 0, slots := 0, locals := 24 }, { frames := 0, cells := 0, slots := 0, locals := 0 }, { frames := 2, cells := 0, slots := 0, locals := 43 }, { frames := 1, cells := 0, slots := 0, locals := 24 }, { frames := 1, cells := 0, slots := 0, locals := 24 }, { frames := 2, cells := 0, slots := 0, locals := 43 }, { frames := 0, cells := 0, slots := 0, locals := 0 }, { frames := 0, cells := 0, slots := 0, locals := 0 }, { frames := 1, cells := 0, slots := 0, locals := 25 }, { frames := 0, cells := 0, slots := 0, locals := 0 }, { frames := 0, cells := 0, slots := 0, locals := 0 }, { frames := 2, cells := 0, slots := 0, locals := 49 }, { frames := 2, cells := 0, slots := 0, locals := 49 }, { frames := 3, cells := 0, slots := 0, locals := 71 }, { frames := 0, cells := 0, slots := 0, locals := 0 }, { frames := 4, cells := 0, slots := 0, locals := 94 }, { frames := 3, cells := 0, slots := 0, locals := 65 }, { frames := 3, cells := 0, slots := 0, locals := 65 }, { frames := 3, cells := 0, slots := 0, locals := 65 }, { frames := 3, cells := 0, slots := 0, locals := 65 }, { frames := 3, cells := 0, slots := 0, locals := 65 }, { frames := 3, cells := 0, slots := 0, locals := 65 }, { frames := 3, cells := 0, slots := 0, locals := 72 }, { frames := 4, cells := 0, slots := 0, locals := 94 }, { frames := 2, cells := 0, slots := 0, locals := 48 }, { frames := 1, cells := 0, slots := 0, locals := 23 }, { frames := 0, cells := 0, slots := 0, locals := 0 }, { frames := 0, cells := 0, slots := 0, locals := 0 }, { frames := 3, cells := 0, slots := 0, locals := 74 }, { frames := 4, cells := 0, slots := 0, locals := 97 }, { frames := 1, cells := 0, slots := 0, locals := 24 }, { frames := 2, cells := 0, slots := 0, locals := 49 }, { frames := 3, cells := 0, slots := 0, locals := 71 }, { frames := 8, cells := 1, slots := 6, locals := 135 }, { frames := 8, cells := 1, slots := 6, locals := 133 }, { frames := 8, cells := 1, slots := 6, locals := 133 }, { frames := 8, cells := 1, slots := 6, locals := 133 }, { frames := 8, cells := 1, slots := 6, locals := 134 }, { frames := 9, cells := 1, slots := 6, locals := 156 }, { frames := 9, cells := 1, slots := 6, locals := 155 }, { frames := 9, cells := 1, slots := 6, locals := 156 }, { frames := 9, cells := 1, slots := 6, locals := 155 }, { frames := 9, cells := 1, slots := 6, locals := 156 }, { frames := 9, cells := 1, slots := 6, locals := 155 }, { frames := 9, cells := 1, slots := 6, locals := 155 }, { frames := 9, cells := 1, slots := 6, locals := 155 }, { frames := 8, cells := 1, slots := 6, locals := 132 }, { frames := 8, cells := 1, slots := 6, locals := 195 }, { frames := 7, cells := 1, slots := 6, locals := 111 }, { frames := 8, cells := 1, slots := 6, locals := 135 }, { frames := 7, cells := 1, slots := 6, locals := 132 }, { frames := 12, cells := 1086, slots := 28528, locals := 442 }]
def jRr : List (Nat × Nat) := [(0, 0), (0, 0), (0, 0), (9, 144), (0, 0), (0, 0), (0, 0), (0, 0), (0, 0), (0, 0), (7, 2180), (0, 0), (0, 0), (0, 0), (0, 0), (5, 76), (0, 0), (0, 0), (0, 0), (0, 0), (0, 0), (0, 0), (0, 0), (0, 0), (0, 0), (24, 2425), (0, 0), (0, 0), (0, 0), (0, 0), (0, 0), (0, 0), (0, 0), (0, 0), (0, 0), (0, 0), (0, 0), (0, 0), (0, 0), (0, 0), (0, 0), (0, 0), (0, 0), (0, 0), (0, 0), (0, 0), (0, 0), (0, 0), (0, 0), (0, 0), (0, 0), (0, 0), (0, 0), (0, 0), (0, 0), (0, 0), (0, 0), (0, 0), (0, 0), (0, 0), (0, 0), (19, 17784), (0, 0), (0, 0), (0, 0), (0, 0), (0, 0), (0, 0), (0, 0), (0, 0), (0, 0), (0, 0), (0, 0), (0, 0), (0, 0), (0, 0), (0, 0), (0, 0), (0, 0), (0, 0), (0, 0), (0, 0), (0, 0), (0, 0), (0, 0), (0, 0), (0, 0), (0, 0), (0, 0), (0, 0), (0, 0), (0, 0), (0, 0), (0, 0), (0, 0), (0, 0), (0, 0), (0, 0), (0, 0), (0, 0), (1, 6), (1, 6), (1, 6), (1, 6), (1, 6), (1, 6), (1, 6), (1, 6), (1, 6), (1, 6), (1, 6), (1, 6), (1, 6), (1, 6), (1, 6), (1, 6), (1, 6), (1, 6), (1086, 28528)]
/-! the code -/
def jK0 : List (Nat × Instr × Nat) := [(0, .iconst 0, 1), (1, .istore_n 2, 1), (2, .aload_n 0, 1), (3, .arraylength, 1), (4, .istore_n 3, 1), (5, .iload_n 2, 1), (6, .iload_n 3, 1), (7, .if_icmp .ge 13, 3), (10, .aload_n 0, 1), (11, .iload_n 2, 1), (12, .iload_n 1, 1), (13, .iastore, 1), (14, .iinc 2 1, 3), (17, .goto (-12), 3), (20, .return_, 1)]
def jK1 : List (Nat × Instr × Nat) := [(0, .iload_n 0, 1), (1, .iload_n 1, 1), (2, .if_icmp .lt 7, 3), (5, .iload_n 0, 1), (6, .goto 4, 3), (9, .iload_n 1, 1), (10, .ireturn, 1)]
def jK2 : List (Nat × Instr × Nat) := [(0, .iload_n 0, 1), (1, .iload_n 1, 1), (2, .if_icmp .gt 7, 3), (5, .iload_n 0, 1), (6, .goto 4, 3), (9, .iload_n 1, 1), (10, .ireturn, 1)]
def jK3 : List (Nat × Instr × Nat) := [(0, .aload_n 0, 1), (1, .invokespecial 3, 3), (4, .aload_n 0, 1), (5, .bipush 16, 2), (7, .newarray .int, 2), (9, .putfield 9, 3), (12, .aload_n 0, 1), (13, .bipush 16, 2), (15, .newarray .int, 2), (17, .putfield 15, 3), (20, .aload_n 0, 1), (21, .bipush 16, 2), (23, .newarray .int, 2), (25, .putfield 18, 3), (28, .aload_n 0, 1), (29, .bipush 16, 2), (31, .newarray .int, 2), (33, .putfield 21, 3), (36, .aload_n 0, 1), (37, .bipush 16, 2), (39, .newarray .int, 2), (41, .putfield 24, 3), (44, .aload_n 0, 1), (45, .bipush 16, 2), (47, .newarray .int, 2), (49, .putfield 27, 3), (52, .aload_n 0, 1), (53, .bipush 16, 2), (55, .newarray .int, 2), (57, .putfield 30, 3), (60, .aload_n 0, 1), (61, .bipush 16, 2), (63, .newarray .int, 2), (65, .putfield 33, 3), (68, .aload_n 0, 1), (69, .bipush 16, 2), (71, .newarray .boolean, 2), (73, .putfield 36, 3), (76, .return_, 1)]
def jK4 : List (Nat × Instr × Nat) := [(0, .aload_n 0, 1), (1, .getfield 40, 3), (4, .bipush 16, 2), (6, .if_icmp .lt 7, 3), (9, .iconst 1, 1), (10, .goto 4, 3), (13, .iconst 0, 1), (14, .ireturn, 1)]
def jK5 : List (Nat × Instr × Nat) := [(0, .aload_n 0, 1), (1, .getfield 40, 3), (4, .istore 4, 2), (6, .aload_n 0, 1), (7, .getfield 9, 3), (10, .iload 4, 2), (12, .iload_n 1, 1), (13, .iastore, 1), (14, .aload_n 0, 1), (15, .getfield 15, 3), (18, .iload 4, 2), (20, .iload_n 2, 1), (21, .iastore, 1), (22, .aload_n 0, 1), (23, .getfield 18, 3), (26, .iload 4, 2), (28, .iload_n 3, 1), (29, .iastore, 1), (30, .aload_n 0, 1), (31, .getfield 21, 3), (34, .iload 4, 2), (36, .iconst 3, 1), (37, .iastore, 1), (38, .aload_n 0, 1), (39, .dup, 1), (40, .getfield 40, 3), (43, .iconst 1, 1), (44, .iadd, 1), (45, .putfield 40, 3), (48, .iload 4, 2), (50, .ireturn, 1)]
def jK6 : List (Nat × Instr × Nat) := [(0, .iload_n 1, 1), (1, .iload_n 2, 1), (2, .if_icmp .eq 16, 3), (5, .aload_n 0, 1), (6, .getfield 27, 3), (9, .iload_n 2, 1), (10, .iaload, 1), (11, .iload_n 1, 1), (12, .invokestatic 44, 3), (15, .ifCond .eq 7, 3), (18, .iconst 1, 1), (19, .goto 4, 3), (22, .iconst 0, 1), (23, .ireturn, 1)]
def jK7 : List (Nat × Instr × Nat) := [(0, .aload_n 0, 1), (1, .getfield 27, 3), (4, .iload_n 2, 1), (5, .iaload, 1), (6, .iconst 1, 1), (7, .iload_n 2, 1), (8, .ishl, 1), (9, .ior, 1), (10, .istore_n 3, 1), (11, .aload_n 0, 1), (12, .getfield 24, 3), (15, .iload_n 1, 1), (16, .dup2, 1), (17, .iaload, 1), (18, .iconst 1, 1), (19, .iload_n 2, 1), (20, .ishl, 1), (21, .ior, 1), (22, .iastore, 1), (23, .iconst 0, 1), (24, .istore 4, 2), (26, .iload 4, 2), (28, .aload_n 0, 1), (29, .getfield 40, 3), (32, .if_icmp .ge 40, 3), (35, .iload 4, 2), (37, .iload_n 1, 1), (38, .if_icmp .eq 17, 3), (41, .aload_n 0, 1), (42, .getfield 27, 3), (45, .iload 4, 2), (47, .iaload, 1), (48, .iload_n 1, 1), (49, .invokestatic 44, 3), (52, .ifCond .eq 14, 3), (55, .aload_n 0, 1), (56, .getfield 27, 3), (59, .iload 4, 2), (61, .dup2, 1), (62, .iaload, 1), (63, .iload_n 3, 1), (64, .ior, 1), (65, .iastore, 1), (66, .iinc 4 1, 3), (69, .goto (-43), 3), (72, .return_, 1)]
def jK8 : List (Nat × Instr × Nat) := [(0, .aload_n 0, 1), (1, .getfield 36, 3), (4, .iload_n 1, 1), (5, .iconst 1, 1), (6, .bastore, 1), (7, .aload_n 0, 1), (8, .getfield 33, 3), (11, .iload_n 1, 1), (12, .dup2, 1), (13, .iaload, 1), (14, .iconst 1, 1), (15, .iadd, 1), (16, .iastore, 1), (17, .return_, 1)]
def jK9 : List (Nat × Instr × Nat) := [(0, .aload_n 0, 1), (1, .getfield 33, 3), (4, .iconst 0, 1), (5, .invokestatic 48, 3), (8, .return_, 1)]
def jK10 : List (Nat × Instr × Nat) := [(0, .aload_n 0, 1), (1, .invokespecial 3, 3), (4, .aload_n 0, 1), (5, .sipush 300, 3), (8, .newarray .int, 2), (10, .putfield 9, 3), (13, .aload_n 0, 1), (14, .sipush 300, 3), (17, .newarray .int, 2), (19, .putfield 15, 3), (22, .aload_n 0, 1), (23, .sipush 300, 3), (26, .newarray .int, 2), (28, .putfield 18, 3), (31, .aload_n 0, 1), (32, .sipush 320, 3), (35, .newarray .int, 2), (37, .putfield 21, 3), (40, .aload_n 0, 1), (41, .sipush 320, 3), (44, .newarray .int, 2), (46, .putfield 24, 3), (49, .aload_n 0, 1), (50, .sipush 320, 3), (53, .newarray .int, 2), (55, .putfield 27, 3), (58, .aload_n 0, 1), (59, .sipush 320, 3), (62, .newarray .int, 2), (64, .putfield 30, 3), (67, .aload_n 0, 1), (68, .getfield 21, 3), (71, .iconst (-1), 1), (72, .invokestatic 33, 3), (75, .aload_n 0, 1), (76, .getfield 30, 3), (79, .iconst (-1), 1), (80, .invokestatic 33, 3), (83, .return_, 1)]
def jK11 : List (Nat × Instr × Nat) := [(0, .aload_n 0, 1), (1, .getfield 39, 3), (4, .sipush 300, 3), (7, .if_icmp .lt 7, 3), (10, .iconst 1, 1), (11, .goto 4, 3), (14, .iconst 0, 1), (15, .ireturn, 1)]
def jK12 : List (Nat × Instr × Nat) := [(0, .aload_n 0, 1), (1, .getfield 39, 3), (4, .istore 4, 2), (6, .aload_n 0, 1), (7, .dup, 1), (8, .getfield 39, 3), (11, .iconst 1, 1), (12, .iadd, 1), (13, .putfield 39, 3), (16, .aload_n 0, 1), (17, .getfield 9, 3), (20, .iload 4, 2), (22, .iload_n 2, 1), (23, .iastore, 1), (24, .aload_n 0, 1), (25, .getfield 15, 3), (28, .iload 4, 2), (30, .aload_n 0, 1), (31, .getfield 21, 3), (34, .iload_n 1, 1), (35, .iaload, 1), (36, .iastore, 1), (37, .aload_n 0, 1), (38, .getfield 24, 3), (41, .iload_n 1, 1), (42, .iload_n 2, 1), (43, .iastore, 1), (44, .iload_n 3, 1), (45, .ifCond .eq 31, 3), (48, .aload_n 0, 1), (49, .dup, 1), (50, .getfield 43, 3), (53, .iconst 1, 1), (54, .iadd, 1), (55, .putfield 43, 3), (58, .aload_n 0, 1), (59, .getfield 21, 3), (62, .iload_n 1, 1), (63, .iload 4, 2), (65, .iastore, 1), (66, .aload_n 0, 1), (67, .getfield 27, 3), (70, .iload_n 1, 1), (71, .iconst 0, 1), (72, .iastore, 1), (73, .goto 13, 3), (76, .aload_n 0, 1), (77, .getfield 27, 3), (80, .iload_n 1, 1), (81, .dup2, 1), (82, .iaload, 1), (83, .iconst 1, 1), (84, .iadd, 1), (85, .iastore, 1), (86, .iload 4, 2), (88, .ireturn, 1)]
def jK13 : List (Nat × Instr × Nat) := [(0, .aload_n 0, 1), (1, .getfield 21, 3), (4, .iload_n 1, 1), (5, .iaload, 1), (6, .istore 4, 2), (8, .iload 4, 2), (10, .iconst (-1), 1), (11, .if_icmp .ne 5, 3), (14, .iconst 0, 1), (15, .ireturn, 1), (16, .aload_n 0, 1), (17, .getfield 30, 3), (20, .iload_n 1, 1), (21, .iaload, 1), (22, .iload_n 2, 1), (23, .if_icmp .eq 25, 3), (26, .aload_n 0, 1), (27, .getfield 18, 3), (30, .iload 4, 2), (32, .iaload, 1), (33, .iload_n 3, 1), (34, .if_icmp .ge 14, 3), (37, .aload_n 0, 1), (38, .getfield 18, 3), (41, .iload 4, 2), (43, .dup2, 1), (44, .iaload, 1), (45, .iconst 1, 1), (46, .iadd, 1), (47, .iastore, 1), (48, .aload_n 0, 1), (49, .getfield 30, 3), (52, .iload_n 1, 1), (53, .iload_n 2, 1), (54, .iastore, 1), (55, .aload_n 0, 1), (56, .getfield 18, 3), (59, .iload 4, 2), (61, .iaload, 1), (62, .ireturn, 1)]
def jK14 : List (Nat × Instr × Nat) := [(0, .aload_n 0, 1), (1, .getfield 21, 3), (4, .iload_n 1, 1), (5, .iaload, 1), (6, .istore_n 3, 1), (7, .iconst 0, 1), (8, .istore 4, 2), (10, .iload 4, 2), (12, .aload_n 0, 1), (13, .getfield 39, 3), (16, .if_icmp .ge 33, 3), (19, .iload_n 3, 1), (20, .iconst (-1), 1), (21, .if_icmp .eq 28, 3), (24, .aload_n 0, 1), (25, .getfield 9, 3), (28, .iload_n 3, 1), (29, .iaload, 1), (30, .iload_n 2, 1), (31, .if_icmp .gt 5, 3), (34, .iload_n 3, 1), (35, .ireturn, 1), (36, .aload_n 0, 1), (37, .getfield 15, 3), (40, .iload_n 3, 1), (41, .iaload, 1), (42, .istore_n 3, 1), (43, .iinc 4 1, 3), (46, .goto (-36), 3), (49, .iconst (-1), 1), (50, .ireturn, 1)]
def jK15 : List (Nat × Instr × Nat) := [(0, .aload_n 0, 1), (1, .invokespecial 3, 3), (4, .aload_n 0, 1), (5, .bipush 12, 2), (7, .newarray .int, 2), (9, .putfield 9, 3), (12, .aload_n 0, 1), (13, .bipush 12, 2), (15, .newarray .int, 2), (17, .putfield 15, 3), (20, .aload_n 0, 1), (21, .bipush 20, 2), (23, .newarray .int, 2), (25, .putfield 18, 3), (28, .aload_n 0, 1), (29, .bipush 12, 2), (31, .newarray .int, 2), (33, .putfield 21, 3), (36, .aload_n 0, 1), (37, .bipush 20, 2), (39, .newarray .int, 2), (41, .putfield 24, 3), (44, .return_, 1)]
def jK16 : List (Nat × Instr × Nat) := [(0, .aload_n 0, 1), (1, .iload_n 1, 1), (2, .putfield 27, 3), (5, .aload_n 0, 1), (6, .getfield 15, 3), (9, .iconst (-1), 1), (10, .invokestatic 31, 3), (13, .aload_n 0, 1), (14, .getfield 18, 3), (17, .iconst (-1), 1), (18, .invokestatic 31, 3), (21, .return_, 1)]
def jK17 : List (Nat × Instr × Nat) := [(0, .iconst 0, 1), (1, .istore_n 1, 1), (2, .iconst 0, 1), (3, .istore_n 2, 1), (4, .iload_n 2, 1), (5, .aload_n 0, 1), (6, .getfield 27, 3), (9, .if_icmp .ge 21, 3), (12, .aload_n 0, 1), (13, .iload_n 2, 1), (14, .iconst 0, 1), (15, .invokevirtual 37, 3), (18, .ifCond .eq 6, 3), (21, .iinc 1 1, 3), (24, .iinc 2 1, 3), (27, .goto (-23), 3), (30, .iconst 0, 1), (31, .istore_n 2, 1), (32, .iconst 0, 1), (33, .istore_n 3, 1), (34, .iload_n 3, 1), (35, .aload_n 0, 1), (36, .getfield 27, 3), (39, .if_icmp .ge 18, 3), (42, .iload_n 2, 1), (43, .aload_n 0, 1), (44, .iload_n 3, 1), (45, .iload_n 2, 1), (46, .invokevirtual 41, 3), (49, .ior, 1), (50, .istore_n 2, 1), (51, .iinc 3 1, 3), (54, .goto (-20), 3), (57, .iload_n 1, 1), (58, .ireturn, 1)]
def jK18 : List (Nat × Instr × Nat) := [(0, .aload_n 0, 1), (1, .getfield 9, 3), (4, .iload_n 1, 1), (5, .iaload, 1), (6, .iload_n 2, 1), (7, .iconst (-1), 1), (8, .ixor, 1), (9, .iand, 1), (10, .istore_n 3, 1), (11, .iconst 0, 1), (12, .istore 4, 2), (14, .iload 4, 2), (16, .bipush 20, 2), (18, .if_icmp .ge 34, 3), (21, .iload_n 3, 1), (22, .iload 4, 2), (24, .invokestatic 45, 3), (27, .ifCond .eq 19, 3), (30, .aload_n 0, 1), (31, .iload_n 1, 1), (32, .iload 4, 2), (34, .iload_n 2, 1), (35, .invokevirtual 48, 3), (38, .ifCond .eq 8, 3), (41, .iconst 1, 1), (42, .iload 4, 2), (44, .ishl, 1), (45, .ireturn, 1), (46, .iinc 4 1, 3), (49, .goto (-35), 3), (52, .iconst 0, 1), (53, .ireturn, 1)]
def jK19 : List (Nat × Instr × Nat) := [(0, .aload_n 0, 1), (1, .getfield 15, 3), (4, .iload_n 1, 1), (5, .iaload, 1), (6, .istore 4, 2), (8, .aload_n 0, 1), (9, .getfield 18, 3), (12, .iload_n 2, 1), (13, .iaload, 1), (14, .istore 5, 2), (16, .iload 4, 2), (18, .iload_n 2, 1), (19, .if_icmp .ne 5, 3), (22, .iconst 1, 1), (23, .ireturn, 1), (24, .aload_n 0, 1), (25, .iload_n 1, 1), (26, .iload 4, 2), (28, .invokevirtual 52, 3), (31, .aload_n 0, 1), (32, .iload 5, 2), (34, .iload_n 2, 1), (35, .invokevirtual 52, 3), (38, .aload_n 0, 1), (39, .iload_n 1, 1), (40, .iload_n 2, 1), (41, .invokevirtual 56, 3), (44, .iload 4, 2), (46, .iconst (-1), 1), (47, .if_icmp .eq 9, 3), (50, .iload 5, 2), (52, .iconst (-1), 1), (53, .if_icmp .ne 5, 3), (56, .iconst 1, 1), (57, .ireturn, 1), (58, .aload_n 0, 1), (59, .iload_n 1, 1), (60, .iload_n 3, 1), (61, .iconst 1, 1), (62, .iload_n 2, 1), (63, .ishl, 1), (64, .ior, 1), (65, .invokevirtual 59, 3), (68, .ifCond .eq 5, 3), (71, .iconst 1, 1), (72, .ireturn, 1), (73, .aload_n 0, 1), (74, .iload_n 1, 1), (75, .iload 4, 2), (77, .invokevirtual 56, 3), (80, .aload_n 0, 1), (81, .iload 5, 2), (83, .iload_n 2, 1), (84, .invokevirtual 56, 3), (87, .iconst 0, 1), (88, .ireturn, 1)]
def jK20 : List (Nat × Instr × Nat) := [(0, .aload_n 0, 1), (1, .getfield 15, 3), (4, .iload_n 1, 1), (5, .iload_n 2, 1), (6, .iastore, 1), (7, .aload_n 0, 1), (8, .getfield 18, 3), (11, .iload_n 2, 1), (12, .iload_n 1, 1), (13, .iastore, 1), (14, .return_, 1)]
def jK21 : List (Nat × Instr × Nat) := [(0, .iload_n 1, 1), (1, .iconst (-1), 1), (2, .if_icmp .eq 22, 3), (5, .iload_n 2, 1), (6, .iconst (-1), 1), (7, .if_icmp .eq 17, 3), (10, .aload_n 0, 1), (11, .getfield 15, 3), (14, .iload_n 1, 1), (15, .iconst (-1), 1), (16, .iastore, 1), (17, .aload_n 0, 1), (18, .getfield 18, 3), (21, .iload_n 2, 1), (22, .iconst (-1), 1), (23, .iastore, 1), (24, .return_, 1)]
def jK22 : List (Nat × Instr × Nat) := [(0, .iload_n 1, 1), (1, .iconst 1, 1), (2, .iadd, 1), (3, .istore_n 3, 1), (4, .iload_n 3, 1), (5, .aload_n 0, 1), (6, .getfield 27, 3), (9, .if_icmp .ge 30, 3), (12, .aload_n 0, 1), (13, .getfield 15, 3), (16, .iload_n 3, 1), (17, .iaload, 1), (18, .iconst (-1), 1), (19, .if_icmp .ne 14, 3), (22, .aload_n 0, 1), (23, .iload_n 3, 1), (24, .iload_n 2, 1), (25, .invokevirtual 37, 3), (28, .ifCond .eq 5, 3), (31, .iconst 1, 1), (32, .ireturn, 1), (33, .iinc 3 1, 3), (36, .goto (-32), 3), (39, .iconst 0, 1), (40, .ireturn, 1)]
def jK23 : List (Nat × Instr × Nat) := [(0, .iload_n 2, 1), (1, .istore_n 3, 1), (2, .iconst 1, 1), (3, .istore 4, 2), (5, .aload_n 0, 1), (6, .getfield 21, 3), (9, .iconst 0, 1), (10, .iload_n 1, 1), (11, .iastore, 1), (12, .iconst 0, 1), (13, .istore 5, 2), (15, .iload 5, 2), (17, .iload 4, 2), (19, .if_icmp .ge 122, 3), (22, .iload 5, 2), (24, .bipush 12, 2), (26, .if_icmp .ge 115, 3), (29, .aload_n 0, 1), (30, .getfield 21, 3), (33, .iload 5, 2), (35, .iaload, 1), (36, .istore 6, 2), (38, .iconst 0, 1), (39, .istore 7, 2), (41, .iload 7, 2), (43, .bipush 20, 2), (45, .if_icmp .ge 90, 3), (48, .aload_n 0, 1), (49, .getfield 9, 3), (52, .iload 6, 2), (54, .iaload, 1), (55, .iload_n 3, 1), (56, .iconst (-1), 1), (57, .ixor, 1), (58, .iand, 1), (59, .iload 7, 2), (61, .invokestatic 45, 3), (64, .ifCond .ne 6, 3), (67, .goto 62, 3), (70, .iload_n 3, 1), (71, .iconst 1, 1), (72, .iload 7, 2), (74, .ishl, 1), (75, .ior, 1), (76, .istore_n 3, 1), (77, .aload_n 0, 1), (78, .getfield 24, 3), (81, .iload 7, 2), (83, .iload 6, 2), (85, .iastore, 1), (86, .aload_n 0, 1), (87, .getfield 18, 3), (90, .iload 7, 2), (92, .iaload, 1), (93, .iconst (-1), 1), (94, .if_icmp .ne 11, 3), (97, .aload_n 0, 1), (98, .iload 7, 2), (100, .invokevirtual 62, 3), (103, .iconst 1, 1), (104, .ireturn, 1), (105, .iload 4, 2), (107, .bipush 12, 2), (109, .if_icmp .ge 20, 3), (112, .aload_n 0, 1), (113, .getfield 21, 3), (116, .iload 4, 2), (118, .aload_n 0, 1), (119, .getfield 18, 3), (122, .iload 7, 2), (124, .iaload, 1), (125, .iastore, 1), (126, .iinc 4 1, 3), (129, .iinc 7 1, 3), (132, .goto (-91), 3), (135, .iinc 5 1, 3), (138, .goto (-123), 3), (141, .iconst 0, 1), (142, .ireturn, 1)]
def jK24 : List (Nat × Instr × Nat) := [(0, .iload_n 1, 1), (1, .istore_n 2, 1), (2, .iconst 0, 1), (3, .istore_n 3, 1), (4, .iload_n 3, 1), (5, .bipush 12, 2), (7, .if_icmp .ge 41, 3), (10, .iload_n 2, 1), (11, .iconst (-1), 1), (12, .if_icmp .eq 36, 3), (15, .aload_n 0, 1), (16, .getfield 24, 3), (19, .iload_n 2, 1), (20, .iaload, 1), (21, .istore 4, 2), (23, .aload_n 0, 1), (24, .getfield 15, 3), (27, .iload 4, 2), (29, .iaload, 1), (30, .istore 5, 2), (32, .aload_n 0, 1), (33, .iload 4, 2), (35, .iload_n 2, 1), (36, .invokevirtual 56, 3), (39, .iload 5, 2), (41, .istore_n 2, 1), (42, .iinc 3 1, 3), (45, .goto (-41), 3), (48, .return_, 1)]
def jK25 : List (Nat × Instr × Nat) := [(0, .aload_n 0, 1), (1, .invokespecial 3, 3), (4, .aload_n 0, 1), (5, .new 9, 3), (8, .dup, 1), (9, .invokespecial 11, 3), (12, .putfield 12, 3), (15, .aload_n 0, 1), (16, .new 16, 3), (19, .dup, 1), (20, .invokespecial 18, 3), (23, .putfield 19, 3), (26, .aload_n 0, 1), (27, .new 23, 3), (30, .dup, 1), (31, .invokespecial 25, 3), (34, .putfield 26, 3), (37, .aload_n 0, 1), (38, .iconst 0, 1), (39, .putfield 30, 3), (42, .aload_n 0, 1), (43, .bipush 30, 2), (45, .putfield 34, 3), (48, .return_, 1)]
def jK26 : List (Nat × Instr × Nat) := [(0, .iload_n 1, 1), (1, .iconst 1, 1), (2, .sipush 2000, 3), (5, .invokestatic 37, 3), (8, .iload_n 2, 1), (9, .iconst 0, 1), (10, .bipush 100, 2), (12, .invokestatic 37, 3), (15, .iload_n 3, 1), (16, .iconst 0, 1), (17, .bipush 50, 2), (19, .invokestatic 37, 3), (22, .aload_n 0, 1), (23, .getfield 12, 3), (26, .invokevirtual 41, 3), (29, .ifCond .eq 13, 3), (32, .new 45, 3), (35, .dup, 1), (36, .ldc 47, 2), (38, .invokespecial 49, 3), (41, .athrow, 1), (42, .aload_n 0, 1), (43, .getfield 12, 3), (46, .iload_n 1, 1), (47, .iload_n 2, 1), (48, .iload_n 3, 1), (49, .invokevirtual 52, 3), (52, .ireturn, 1)]
def jK27 : List (Nat × Instr × Nat) := [(0, .aload_n 0, 1), (1, .iload_n 1, 1), (2, .invokevirtual 56, 3), (5, .aload_n 0, 1), (6, .iload_n 2, 1), (7, .invokevirtual 56, 3), (10, .aload_n 0, 1), (11, .getfield 12, 3), (14, .iload_n 1, 1), (15, .iload_n 2, 1), (16, .invokevirtual 60, 3), (19, .ifCond .eq 13, 3), (22, .new 64, 3), (25, .dup, 1), (26, .ldc 66, 2), (28, .invokespecial 68, 3), (31, .athrow, 1), (32, .aload_n 0, 1), (33, .getfield 12, 3), (36, .getfield 69, 3), (39, .iload_n 1, 1), (40, .iaload, 1), (41, .iload_n 2, 1), (42, .invokestatic 73, 3), (45, .ifCond .eq 13, 3), (48, .new 64, 3), (51, .dup, 1), (52, .ldc 76, 2), (54, .invokespecial 68, 3), (57, .athrow, 1), (58, .aload_n 0, 1), (59, .getfield 12, 3), (62, .iload_n 1, 1), (63, .iload_n 2, 1), (64, .invokevirtual 78, 3), (67, .return_, 1)]
def jK28 : List (Nat × Instr × Nat) := [(0, .iload_n 1, 1), (1, .iconst 0, 1), (2, .sipush 1000, 3), (5, .invokestatic 37, 3), (8, .aload_n 0, 1), (9, .iload_n 1, 1), (10, .putfield 34, 3), (13, .return_, 1)]
def jK29 : List (Nat × Instr × Nat) := [(0, .iload_n 1, 1), (1, .aload_n 0, 1), (2, .getfield 30, 3), (5, .sipush 9999, 3), (8, .invokestatic 37, 3), (11, .iload_n 1, 1), (12, .aload_n 0, 1), (13, .getfield 30, 3), (16, .if_icmp .eq 10, 3), (19, .aload_n 0, 1), (20, .getfield 12, 3), (23, .invokevirtual 82, 3), (26, .aload_n 0, 1), (27, .iload_n 1, 1), (28, .putfield 30, 3), (31, .return_, 1)]
def jK30 : List (Nat × Instr × Nat) := [(0, .aload_n 0, 1), (1, .iload_n 1, 1), (2, .invokevirtual 56, 3), (5, .iload_n 2, 1), (6, .iconst 0, 1), (7, .bipush 10, 2), (9, .invokestatic 37, 3), (12, .aload_n 0, 1), (13, .getfield 12, 3), (16, .getfield 85, 3), (19, .iload_n 1, 1), (20, .iload_n 2, 1), (21, .iastore, 1), (22, .return_, 1)]
def jK31 : List (Nat × Instr × Nat) := [(0, .aload_n 0, 1), (1, .iload_n 1, 1), (2, .iload_n 2, 1), (3, .invokevirtual 88, 3), (6, .iload_n 3, 1), (7, .iconst 0, 1), (8, .bipush 100, 2), (10, .invokestatic 37, 3), (13, .aload_n 0, 1), (14, .iload_n 1, 1), (15, .iload_n 2, 1), (16, .invokevirtual 91, 3), (19, .ifCond .eq 13, 3), (22, .new 64, 3), (25, .dup, 1), (26, .ldc 95, 2), (28, .invokespecial 68, 3), (31, .athrow, 1), (32, .aload_n 0, 1), (33, .iload_n 2, 1), (34, .invokevirtual 97, 3), (37, .ifCond .ne 13, 3), (40, .new 45, 3), (43, .dup, 1), (44, .ldc 101, 2), (46, .invokespecial 49, 3), (49, .athrow, 1), (50, .aload_n 0, 1), (51, .invokevirtual 103, 3), (54, .aload_n 0, 1), (55, .iload_n 1, 1), (56, .iload_n 2, 1), (57, .iload_n 3, 1), (58, .aload_n 0, 1), (59, .getfield 12, 3), (62, .getfield 106, 3), (65, .iload_n 2, 1), (66, .iaload, 1), (67, .if_icmp .lt 7, 3), (70, .iconst 1, 1), (71, .goto 4, 3), (74, .iconst 0, 1), (75, .invokevirtual 109, 3), (78, .ireturn, 1)]
def jK32 : List (Nat × Instr × Nat) := [(0, .aload_n 0, 1), (1, .iload_n 1, 1), (2, .iload_n 2, 1), (3, .invokevirtual 88, 3), (6, .aload_n 0, 1), (7, .getfield 12, 3), (10, .getfield 113, 3), (13, .iload_n 2, 1), (14, .baload, 1), (15, .ifCond .eq 13, 3), (18, .new 64, 3), (21, .dup, 1), (22, .ldc 117, 2), (24, .invokespecial 68, 3), (27, .athrow, 1), (28, .aload_n 0, 1), (29, .invokevirtual 103, 3), (32, .aload_n 0, 1), (33, .iload_n 1, 1), (34, .iload_n 2, 1), (35, .iconst 1, 1), (36, .invokevirtual 109, 3), (39, .ireturn, 1)]
def jK33 : List (Nat × Instr × Nat) := [(0, .aload_n 0, 1), (1, .iload_n 1, 1), (2, .iload_n 2, 1), (3, .invokevirtual 88, 3), (6, .aload_n 0, 1), (7, .getfield 12, 3), (10, .getfield 119, 3), (13, .iload_n 2, 1), (14, .iaload, 1), (15, .iload_n 1, 1), (16, .invokestatic 73, 3), (19, .iload_n 3, 1), (20, .if_icmp .ne 13, 3), (23, .new 64, 3), (26, .dup, 1), (27, .ldc 122, 2), (29, .invokespecial 68, 3), (32, .athrow, 1), (33, .iload_n 3, 1), (34, .ifCond .eq 22, 3), (37, .aload_n 0, 1), (38, .iload_n 1, 1), (39, .iload_n 2, 1), (40, .invokevirtual 124, 3), (43, .ifCond .ne 13, 3), (46, .new 64, 3), (49, .dup, 1), (50, .ldc 127, 2), (52, .invokespecial 68, 3), (55, .athrow, 1), (56, .aload_n 0, 1), (57, .getfield 12, 3), (60, .getfield 119, 3), (63, .iload_n 2, 1), (64, .dup2, 1), (65, .iaload, 1), (66, .iconst 1, 1), (67, .iload_n 1, 1), (68, .ishl, 1), (69, .ixor, 1), (70, .iastore, 1), (71, .return_, 1)]
def jK34 : List (Nat × Instr × Nat) := [(0, .aload_n 0, 1), (1, .iload_n 1, 1), (2, .iload_n 2, 1), (3, .invokevirtual 88, 3), (6, .aload_n 0, 1), (7, .iload_n 1, 1), (8, .iload_n 2, 1), (9, .invokevirtual 124, 3), (12, .ifCond .ne 13, 3), (15, .new 64, 3), (18, .dup, 1), (19, .ldc 127, 2), (21, .invokespecial 68, 3), (24, .athrow, 1), (25, .aload_n 0, 1), (26, .getfield 19, 3), (29, .iload_n 1, 1), (30, .iload_n 2, 1), (31, .invokestatic 129, 3), (34, .aload_n 0, 1), (35, .getfield 30, 3), (38, .aload_n 0, 1), (39, .getfield 12, 3), (42, .getfield 132, 3), (45, .iload_n 2, 1), (46, .iaload, 1), (47, .invokevirtual 135, 3), (50, .ireturn, 1)]
def jK35 : List (Nat × Instr × Nat) := [(0, .aload_n 0, 1), (1, .iload_n 1, 1), (2, .iload_n 2, 1), (3, .invokevirtual 88, 3), (6, .iload_n 3, 1), (7, .iconst 0, 1), (8, .sipush 9999, 3), (11, .invokestatic 37, 3), (14, .iload_n 3, 1), (15, .aload_n 0, 1), (16, .aload_n 0, 1), (17, .getfield 19, 3), (20, .iload_n 1, 1), (21, .iload_n 2, 1), (22, .invokestatic 129, 3), (25, .iload_n 3, 1), (26, .invokevirtual 138, 3), (29, .iload_n 2, 1), (30, .invokevirtual 141, 3), (33, .if_icmp .ge 7, 3), (36, .iconst 1, 1), (37, .goto 4, 3), (40, .iconst 0, 1), (41, .ireturn, 1)]
def jK36 : List (Nat × Instr × Nat) := [(0, .aload_n 0, 1), (1, .iload_n 1, 1), (2, .iload_n 2, 1), (3, .invokevirtual 88, 3), (6, .aload_n 0, 1), (7, .iload_n 1, 1), (8, .iload_n 2, 1), (9, .invokevirtual 144, 3), (12, .ireturn, 1)]
def jK37 : List (Nat × Instr × Nat) := [(0, .aload_n 0, 1), (1, .iload_n 1, 1), (2, .iload_n 2, 1), (3, .invokevirtual 88, 3), (6, .aload_n 0, 1), (7, .getfield 19, 3), (10, .getfield 147, 3), (13, .iload_n 1, 1), (14, .iload_n 2, 1), (15, .invokestatic 129, 3), (18, .iaload, 1), (19, .ireturn, 1)]
def jK38 : List (Nat × Instr × Nat) := [(0, .aload_n 0, 1), (1, .iload_n 1, 1), (2, .iload_n 2, 1), (3, .invokevirtual 88, 3), (6, .aload_n 0, 1), (7, .iload_n 1, 1), (8, .iload_n 2, 1), (9, .invokevirtual 91, 3), (12, .ireturn, 1)]
def jK39 : List (Nat × Instr × Nat) := [(0, .aload_n 0, 1), (1, .iload_n 1, 1), (2, .invokevirtual 56, 3), (5, .aload_n 0, 1), (6, .iload_n 1, 1), (7, .invokevirtual 97, 3), (10, .ireturn, 1)]
def jK40 : List (Nat × Instr × Nat) := [(0, .iload_n 3, 1), (1, .bipush 12, 2), (3, .invokestatic 150, 3), (6, .istore 5, 2), (8, .iconst 0, 1), (9, .istore 6, 2), (11, .iload 6, 2), (13, .iload 5, 2), (15, .if_icmp .ge 19, 3), (18, .aload_n 0, 1), (19, .lload_n 1, 1), (20, .iload 6, 2), (22, .invokestatic 155, 3), (25, .invokevirtual 56, 3), (28, .iinc 6 1, 3), (31, .goto (-20), 3), (34, .iload_n 3, 1), (35, .iconst 0, 1), (36, .bipush 12, 2), (38, .invokestatic 37, 3), (41, .iload 4, 2), (43, .iconst 0, 1), (44, .sipush 2100, 3), (47, .invokestatic 37, 3), (50, .aload_n 0, 1), (51, .getfield 26, 3), (54, .iload_n 3, 1), (55, .invokevirtual 159, 3), (58, .iconst 0, 1), (59, .istore 6, 2), (61, .iload 6, 2), (63, .iload 5, 2), (65, .if_icmp .ge 31, 3), (68, .aload_n 0, 1), (69, .getfield 26, 3), (72, .getfield 162, 3), (75, .iload 6, 2), (77, .aload_n 0, 1), (78, .lload_n 1, 1), (79, .iload 6, 2), (81, .invokestatic 155, 3), (84, .iload 4, 2), (86, .invokevirtual 165, 3), (89, .iastore, 1), (90, .iinc 6 1, 3), (93, .goto (-32), 3), (96, .aload_n 0, 1), (97, .getfield 26, 3), (100, .invokevirtual 168, 3), (103, .ireturn, 1)]
def jK41 : List (Nat × Instr × Nat) := [(0, .iload_n 1, 1), (1, .ifCond .lt 14, 3), (4, .iload_n 1, 1), (5, .aload_n 0, 1), (6, .getfield 26, 3), (9, .getfield 172, 3), (12, .if_icmp .lt 13, 3), (15, .new 175, 3), (18, .dup, 1), (19, .ldc 177, 2), (21, .invokespecial 179, 3), (24, .athrow, 1), (25, .aload_n 0, 1), (26, .getfield 26, 3), (29, .getfield 180, 3), (32, .iload_n 1, 1), (33, .iaload, 1), (34, .ireturn, 1)]
def jK42 : List (Nat × Instr × Nat) := [(0, .aload_n 0, 1), (1, .iload_n 1, 1), (2, .invokevirtual 56, 3), (5, .iload_n 2, 1), (6, .ifCond .ge 13, 3), (9, .new 183, 3), (12, .dup, 1), (13, .ldc 185, 2), (15, .invokespecial 187, 3), (18, .athrow, 1), (19, .iconst 0, 1), (20, .istore_n 3, 1), (21, .iconst 0, 1), (22, .istore 4, 2), (24, .iload 4, 2), (26, .bipush 20, 2), (28, .if_icmp .ge 36, 3), (31, .aload_n 0, 1), (32, .iload 4, 2), (34, .iload_n 1, 1), (35, .invokevirtual 144, 3), (38, .aload_n 0, 1), (39, .getfield 30, 3), (42, .iconst 1, 1), (43, .iadd, 1), (44, .if_icmp .ne 14, 3), (47, .iload_n 3, 1), (48, .iload_n 2, 1), (49, .if_icmp .ne 6, 3), (52, .iload 4, 2), (54, .ireturn, 1), (55, .iinc 3 1, 3), (58, .iinc 4 1, 3), (61, .goto (-37), 3), (64, .iconst (-1), 1), (65, .ireturn, 1)]
def jK43 : List (Nat × Instr × Nat) := [(0, .iload_n 1, 1), (1, .tableswitch 60 0 3 #[31, 39, 47, 55], 31), (32, .aload_n 0, 1), (33, .getfield 12, 3), (36, .getfield 188, 3), (39, .ireturn, 1), (40, .aload_n 0, 1), (41, .getfield 19, 3), (44, .getfield 191, 3), (47, .ireturn, 1), (48, .aload_n 0, 1), (49, .getfield 19, 3), (52, .getfield 194, 3), (55, .ireturn, 1), (56, .aload_n 0, 1), (57, .invokevirtual 197, 3), (60, .ireturn, 1), (61, .new 175, 3), (64, .dup, 1), (65, .ldc 200, 2), (67, .invokespecial 179, 3), (70, .athrow, 1)]
def jK44 : List (Nat × Instr × Nat) := [(0, .iload_n 1, 1), (1, .ifCond .lt 14, 3), (4, .iload_n 1, 1), (5, .aload_n 0, 1), (6, .getfield 12, 3), (9, .getfield 188, 3), (12, .if_icmp .lt 13, 3), (15, .new 175, 3), (18, .dup, 1), (19, .ldc 202, 2), (21, .invokespecial 179, 3), (24, .athrow, 1), (25, .return_, 1)]
def jK45 : List (Nat × Instr × Nat) := [(0, .iload_n 1, 1), (1, .ifCond .lt 9, 3), (4, .iload_n 1, 1), (5, .bipush 20, 2), (7, .if_icmp .lt 13, 3), (10, .new 175, 3), (13, .dup, 1), (14, .ldc 204, 2), (16, .invokespecial 179, 3), (19, .athrow, 1), (20, .aload_n 0, 1), (21, .iload_n 2, 1), (22, .invokevirtual 56, 3), (25, .return_, 1)]
def jK46 : List (Nat × Instr × Nat) := [(0, .iload_n 0, 1), (1, .iload_n 1, 1), (2, .if_icmp .lt 8, 3), (5, .iload_n 0, 1), (6, .iload_n 2, 1), (7, .if_icmp .le 13, 3), (10, .new 183, 3), (13, .dup, 1), (14, .ldc 206, 2), (16, .invokespecial 187, 3), (19, .athrow, 1), (20, .return_, 1)]
def jK47 : List (Nat × Instr × Nat) := [(0, .aload_n 0, 1), (1, .getfield 19, 3), (4, .invokevirtual 208, 3), (7, .ifCond .eq 13, 3), (10, .new 45, 3), (13, .dup, 1), (14, .ldc 209, 2), (16, .invokespecial 49, 3), (19, .athrow, 1), (20, .return_, 1)]
def jK48 : List (Nat × Instr × Nat) := [(0, .iload_n 0, 1), (1, .bipush 16, 2), (3, .imul, 1), (4, .iload_n 1, 1), (5, .iadd, 1), (6, .ireturn, 1)]
def jK49 : List (Nat × Instr × Nat) := [(0, .iload_n 0, 1), (1, .iload_n 1, 1), (2, .ishr, 1), (3, .iconst 1, 1), (4, .iand, 1), (5, .ifCond .eq 7, 3), (8, .iconst 1, 1), (9, .goto 4, 3), (12, .iconst 0, 1), (13, .ireturn, 1)]
def jK50 : List (Nat × Instr × Nat) := [(0, .lload_n 0, 1), (1, .iconst 4, 1), (2, .iload_n 2, 1), (3, .imul, 1), (4, .lushr, 1), (5, .ldc2_w 211, 3), (8, .land, 1), (9, .l2i, 1), (10, .ireturn, 1)]
def jK51 : List (Nat × Instr × Nat) := [(0, .aload_n 0, 1), (1, .getfield 12, 3), (4, .iload_n 2, 1), (5, .invokevirtual 213, 3), (8, .aload_n 0, 1), (9, .getfield 19, 3), (12, .iload_n 1, 1), (13, .iload_n 2, 1), (14, .invokestatic 129, 3), (17, .aload_n 0, 1), (18, .getfield 30, 3), (21, .iload_n 3, 1), (22, .invokevirtual 216, 3), (25, .ireturn, 1)]
def jK52 : List (Nat × Instr × Nat) := [(0, .aload_n 0, 1), (1, .aload_n 0, 1), (2, .getfield 19, 3), (5, .getfield 217, 3), (8, .iload_n 1, 1), (9, .iload_n 2, 1), (10, .invokestatic 129, 3), (13, .iaload, 1), (14, .iload_n 2, 1), (15, .invokevirtual 141, 3), (18, .ireturn, 1)]
def jK53 : List (Nat × Instr × Nat) := [(0, .iload_n 1, 1), (1, .iconst (-1), 1), (2, .if_icmp .ne 5, 3), (5, .iconst (-1), 1), (6, .ireturn, 1), (7, .aload_n 0, 1), (8, .getfield 19, 3), (11, .getfield 220, 3), (14, .iload_n 1, 1), (15, .iaload, 1), (16, .aload_n 0, 1), (17, .getfield 12, 3), (20, .getfield 223, 3), (23, .iload_n 2, 1), (24, .iaload, 1), (25, .iadd, 1), (26, .aload_n 0, 1), (27, .getfield 19, 3), (30, .getfield 226, 3), (33, .iload_n 1, 1), (34, .iaload, 1), (35, .iadd, 1), (36, .ireturn, 1)]
def jK54 : List (Nat × Instr × Nat) := [(0, .aload_n 0, 1), (1, .getfield 30, 3), (4, .aload_n 0, 1), (5, .iload_n 1, 1), (6, .iload_n 2, 1), (7, .invokevirtual 144, 3), (10, .if_icmp .ge 7, 3), (13, .iconst 1, 1), (14, .goto 4, 3), (17, .iconst 0, 1), (18, .ireturn, 1)]
def jK55 : List (Nat × Instr × Nat) := [(0, .aload_n 0, 1), (1, .iload_n 1, 1), (2, .iload_n 2, 1), (3, .invokevirtual 229, 3), (6, .ifCond .ne 5, 3), (9, .iconst 1, 1), (10, .ireturn, 1), (11, .aload_n 0, 1), (12, .getfield 12, 3), (15, .getfield 119, 3), (18, .iload_n 2, 1), (19, .iaload, 1), (20, .iload_n 1, 1), (21, .invokestatic 73, 3), (24, .ifCond .eq 5, 3), (27, .iconst 2, 1), (28, .ireturn, 1), (29, .iload_n 1, 1), (30, .iload_n 2, 1), (31, .invokestatic 129, 3), (34, .istore_n 3, 1), (35, .aload_n 0, 1), (36, .getfield 19, 3), (39, .getfield 147, 3), (42, .iload_n 3, 1), (43, .iaload, 1), (44, .iconst 3, 1), (45, .if_icmp .lt 7, 3), (48, .iconst 1, 1), (49, .goto 4, 3), (52, .iconst 0, 1), (53, .istore 4, 2), (55, .iload 4, 2), (57, .ifCond .eq 26, 3), (60, .aload_n 0, 1), (61, .getfield 30, 3), (64, .aload_n 0, 1), (65, .getfield 19, 3), (68, .getfield 232, 3), (71, .iload_n 3, 1), (72, .iaload, 1), (73, .isub, 1), (74, .aload_n 0, 1), (75, .getfield 34, 3), (78, .if_icmp .ge 5, 3), (81, .iconst 3, 1), (82, .ireturn, 1), (83, .iconst 0, 1), (84, .ireturn, 1)]
def jK56 : List (Nat × Instr × Nat) := [(0, .iconst 0, 1), (1, .istore_n 3, 1), (2, .iload_n 3, 1), (3, .aload_n 0, 1), (4, .getfield 12, 3), (7, .getfield 188, 3), (10, .if_icmp .ge 36, 3), (13, .aload_n 0, 1), (14, .getfield 12, 3), (17, .getfield 69, 3), (20, .iload_n 2, 1), (21, .iaload, 1), (22, .iload_n 3, 1), (23, .invokestatic 73, 3), (26, .ifCond .eq 14, 3), (29, .aload_n 0, 1), (30, .iload_n 1, 1), (31, .iload_n 3, 1), (32, .invokevirtual 124, 3), (35, .ifCond .ne 5, 3), (38, .iconst 0, 1), (39, .ireturn, 1), (40, .iinc 3 1, 3), (43, .goto (-41), 3), (46, .iconst 1, 1), (47, .ireturn, 1)]
def jK57 : List (Nat × Instr × Nat) := [(0, .aload_n 0, 1), (1, .getfield 12, 3), (4, .getfield 85, 3), (7, .iload_n 1, 1), (8, .iaload, 1), (9, .aload_n 0, 1), (10, .iload_n 1, 1), (11, .invokevirtual 235, 3), (14, .imul, 1), (15, .istore_n 2, 1), (16, .iconst 0, 1), (17, .iload_n 2, 1), (18, .aload_n 0, 1), (19, .getfield 12, 3), (22, .getfield 238, 3), (25, .iload_n 1, 1), (26, .iaload, 1), (27, .isub, 1), (28, .invokestatic 241, 3), (31, .ireturn, 1)]
def jK58 : List (Nat × Instr × Nat) := [(0, .iconst 0, 1), (1, .istore_n 2, 1), (2, .iconst 0, 1), (3, .istore_n 3, 1), (4, .iload_n 3, 1), (5, .bipush 20, 2), (7, .if_icmp .ge 37, 3), (10, .aload_n 0, 1), (11, .getfield 12, 3), (14, .getfield 119, 3), (17, .iload_n 1, 1), (18, .iaload, 1), (19, .iload_n 3, 1), (20, .invokestatic 73, 3), (23, .ifCond .eq 15, 3), (26, .aload_n 0, 1), (27, .iload_n 3, 1), (28, .iload_n 1, 1), (29, .invokevirtual 124, 3), (32, .ifCond .eq 6, 3), (35, .iinc 2 1, 3), (38, .iinc 3 1, 3), (41, .goto (-37), 3), (44, .iload_n 2, 1), (45, .ireturn, 1)]
def jK59 : List (Nat × Instr × Nat) := [(0, .iconst 0, 1), (1, .istore_n 1, 1), (2, .iconst 0, 1), (3, .istore_n 2, 1), (4, .iload_n 2, 1), (5, .aload_n 0, 1), (6, .getfield 12, 3), (9, .getfield 188, 3), (12, .if_icmp .ge 17, 3), (15, .iload_n 1, 1), (16, .aload_n 0, 1), (17, .iload_n 2, 1), (18, .invokevirtual 235, 3), (21, .iadd, 1), (22, .istore_n 1, 1), (23, .iinc 2 1, 3), (26, .goto (-22), 3), (29, .iload_n 1, 1), (30, .ireturn, 1)]
def jK60 : List (Nat × Instr × Nat) := [(0, .iconst 0, 1), (1, .istore_n 3, 1), (2, .iconst 0, 1), (3, .istore 4, 2), (5, .iload 4, 2), (7, .bipush 20, 2), (9, .if_icmp .ge 41, 3), (12, .aload_n 0, 1), (13, .iload 4, 2), (15, .iload_n 1, 1), (16, .invokevirtual 144, 3), (19, .aload_n 0, 1), (20, .getfield 30, 3), (23, .isub, 1), (24, .istore 5, 2), (26, .iload 5, 2), (28, .ifCond .le 16, 3), (31, .iload 5, 2), (33, .iload_n 2, 1), (34, .if_icmp .gt 10, 3), (37, .iload_n 3, 1), (38, .iconst 1, 1), (39, .iload 4, 2), (41, .ishl, 1), (42, .ior, 1), (43, .istore_n 3, 1), (44, .iinc 4 1, 3), (47, .goto (-42), 3), (50, .iload_n 3, 1), (51, .ireturn, 1)]
def jK61 : List (Nat × Instr × Nat) := [(0, .aload_n 0, 1), (1, .invokespecial 1, 3), (4, .aload_n 0, 1), (5, .bipush 30, 2), (7, .putfield 7, 3), (10, .aload_n 0, 1), (11, .bipush 16, 2), (13, .newarray .int, 2), (15, .putfield 13, 3), (18, .aload_n 0, 1), (19, .bipush 16, 2), (21, .newarray .int, 2), (23, .putfield 17, 3), (26, .aload_n 0, 1), (27, .bipush 16, 2), (29, .newarray .int, 2), (31, .putfield 20, 3), (34, .aload_n 0, 1), (35, .bipush 16, 2), (37, .newarray .int, 2), (39, .putfield 23, 3), (42, .aload_n 0, 1), (43, .sipush 256, 3), (46, .newarray .boolean, 2), (48, .putfield 26, 3), (51, .aload_n 0, 1), (52, .sipush 320, 3), (55, .newarray .boolean, 2), (57, .putfield 30, 3), (60, .aload_n 0, 1), (61, .sipush 300, 3), (64, .newarray .int, 2), (66, .putfield 33, 3), (69, .aload_n 0, 1), (70, .sipush 300, 3), (73, .newarray .int, 2), (75, .putfield 36, 3), (78, .aload_n 0, 1), (79, .sipush 300, 3), (82, .newarray .int, 2), (84, .putfield 39, 3), (87, .aload_n 0, 1), (88, .sipush 300, 3), (91, .newarray .boolean, 2), (93, .putfield 42, 3), (96, .aload_n 0, 1), (97, .sipush 300, 3), (100, .newarray .int, 2), (102, .putfield 45, 3), (105, .aload_n 0, 1), (106, .sipush 15000, 3), (109, .newarray .int, 2), (111, .putfield 48, 3), (114, .aload_n 0, 1), (115, .sipush 320, 3), (118, .newarray .int, 2), (120, .putfield 51, 3), (123, .aload_n 0, 1), (124, .bipush 12, 2), (126, .newarray .int, 2), (128, .putfield 54, 3), (131, .aload_n 0, 1), (132, .bipush 12, 2), (134, .newarray .int, 2), (136, .putfield 57, 3), (139, .aload_n 0, 1), (140, .bipush 20, 2), (142, .newarray .int, 2), (144, .putfield 60, 3), (147, .aload_n 0, 1), (148, .sipush 240, 3), (151, .newarray .boolean, 2), (153, .putfield 63, 3), (156, .aload_n 0, 1), (157, .bipush 20, 2), (159, .newarray .int, 2), (161, .putfield 66, 3), (164, .aload_n 0, 1), (165, .bipush 20, 2), (167, .newarray .int, 2), (169, .putfield 69, 3), (172, .iconst 0, 1), (173, .istore_n 1, 1), (174, .iload_n 1, 1), (175, .sipush 320, 3), (178, .if_icmp .ge 16, 3), (181, .aload_n 0, 1), (182, .getfield 51, 3), (185, .iload_n 1, 1), (186, .iconst (-1), 1), (187, .iastore, 1), (188, .iinc 1 1, 3), (191, .goto (-17), 3), (194, .return_, 1)]
def jK62 : List (Nat × Instr × Nat) := [(0, .aload_n 0, 1), (1, .getfield 72, 3), (4, .ireturn, 1)]
def jK63 : List (Nat × Instr × Nat) := [(0, .aload_n 0, 1), (1, .iload_n 1, 1), (2, .ifCond .eq 7, 3), (5, .iconst 1, 1), (6, .goto 29, 3), (9, .iload_n 2, 1), (10, .ifCond .eq 7, 3), (13, .iconst 2, 1), (14, .goto 21, 3), (17, .iload_n 3, 1), (18, .ifCond .eq 7, 3), (21, .iconst 3, 1), (22, .goto 13, 3), (25, .iload 4, 2), (27, .ifCond .eq 7, 3), (30, .iconst 4, 1), (31, .goto 4, 3), (34, .iconst 0, 1), (35, .putfield 72, 3), (38, .aload_n 0, 1), (39, .getfield 72, 3), (42, .ifCond .le 7, 3), (45, .iconst 1, 1), (46, .goto 4, 3), (49, .iconst 0, 1), (50, .ireturn, 1)]
def jK64 : List (Nat × Instr × Nat) := [(0, .iload_n 0, 1), (1, .iload_n 1, 1), (2, .if_icmp .lt 12, 3), (5, .iload_n 0, 1), (6, .iload_n 2, 1), (7, .if_icmp .gt 7, 3), (10, .iconst 1, 1), (11, .goto 4, 3), (14, .iconst 0, 1), (15, .ireturn, 1)]
def jK65 : List (Nat × Instr × Nat) := [(0, .iload_n 1, 1), (1, .iconst 0, 1), (2, .aload_n 0, 1), (3, .getfield 75, 3), (6, .iconst 1, 1), (7, .isub, 1), (8, .invokestatic 78, 3), (11, .ireturn, 1)]
def jK66 : List (Nat × Instr × Nat) := [(0, .iload_n 1, 1), (1, .iconst 0, 1), (2, .bipush 19, 2), (4, .invokestatic 78, 3), (7, .ifCond .eq 15, 3), (10, .aload_n 0, 1), (11, .iload_n 2, 1), (12, .invokevirtual 82, 3), (15, .ifCond .eq 7, 3), (18, .iconst 1, 1), (19, .goto 4, 3), (22, .iconst 0, 1), (23, .ireturn, 1)]
def jK67 : List (Nat × Instr × Nat) := [(0, .aload_n 0, 1), (1, .iload_n 1, 1), (2, .iconst 1, 1), (3, .sipush 2000, 3), (6, .invokestatic 78, 3), (9, .ifCond .eq 23, 3), (12, .iload_n 2, 1), (13, .iconst 0, 1), (14, .bipush 100, 2), (16, .invokestatic 78, 3), (19, .ifCond .eq 13, 3), (22, .iload_n 3, 1), (23, .iconst 0, 1), (24, .bipush 50, 2), (26, .invokestatic 78, 3), (29, .ifCond .ne 7, 3), (32, .iconst 1, 1), (33, .goto 4, 3), (36, .iconst 0, 1), (37, .aload_n 0, 1), (38, .getfield 75, 3), (41, .bipush 16, 2), (43, .if_icmp .ne 7, 3), (46, .iconst 1, 1), (47, .goto 4, 3), (50, .iconst 0, 1), (51, .iconst 0, 1), (52, .iconst 0, 1), (53, .invokevirtual 86, 3), (56, .ifCond .eq 5, 3), (59, .iconst 0, 1), (60, .ireturn, 1), (61, .aload_n 0, 1), (62, .getfield 13, 3), (65, .aload_n 0, 1), (66, .getfield 75, 3), (69, .iload_n 1, 1), (70, .iastore, 1), (71, .aload_n 0, 1), (72, .getfield 17, 3), (75, .aload_n 0, 1), (76, .getfield 75, 3), (79, .iload_n 2, 1), (80, .iastore, 1), (81, .aload_n 0, 1), (82, .getfield 20, 3), (85, .aload_n 0, 1), (86, .getfield 75, 3), (89, .iload_n 3, 1), (90, .iastore, 1), (91, .aload_n 0, 1), (92, .getfield 23, 3), (95, .aload_n 0, 1), (96, .getfield 75, 3), (99, .iconst 3, 1), (100, .iastore, 1), (101, .aload_n 0, 1), (102, .dup, 1), (103, .getfield 75, 3), (106, .iconst 1, 1), (107, .iadd, 1), (108, .putfield 75, 3), (111, .aload_n 0, 1), (112, .getfield 75, 3), (115, .iconst 1, 1), (116, .isub, 1), (117, .ireturn, 1)]
def jK68 : List (Nat × Instr × Nat) := [(0, .iconst 1, 1), (1, .iload_n 1, 1), (2, .ishl, 1), (3, .istore_n 3, 1), (4, .iconst 1, 1), (5, .istore 4, 2), (7, .iload 4, 2), (9, .ifCond .eq 104, 3), (12, .iconst 0, 1), (13, .istore 4, 2), (15, .iconst 0, 1), (16, .istore 5, 2), (18, .iload 5, 2), (20, .sipush 256, 3), (23, .if_icmp .ge 87, 3), (26, .aload_n 0, 1), (27, .getfield 26, 3), (30, .iload 5, 2), (32, .baload, 1), (33, .ifCond .eq 32, 3), (36, .iload_n 3, 1), (37, .iload 5, 2), (39, .bipush 16, 2), (41, .idiv, 1), (42, .ishr, 1), (43, .iconst 1, 1), (44, .iand, 1), (45, .iconst 1, 1), (46, .if_icmp .ne 19, 3), (49, .iload_n 3, 1), (50, .iload 5, 2), (52, .bipush 16, 2), (54, .irem, 1), (55, .ishr, 1), (56, .iconst 1, 1), (57, .iand, 1), (58, .ifCond .ne 7, 3), (61, .iconst 1, 1), (62, .goto 4, 3), (65, .iconst 0, 1), (66, .istore 6, 2), (68, .iload_n 3, 1), (69, .iload 6, 2), (71, .ifCond .eq 13, 3), (74, .iconst 1, 1), (75, .iload 5, 2), (77, .bipush 16, 2), (79, .irem, 1), (80, .ishl, 1), (81, .goto 4, 3), (84, .iconst 0, 1), (85, .ior, 1), (86, .istore_n 3, 1), (87, .iload 4, 2), (89, .ifCond .ne 8, 3), (92, .iload 6, 2), (94, .ifCond .eq 7, 3), (97, .iconst 1, 1), (98, .goto 4, 3), (101, .iconst 0, 1), (102, .istore 4, 2), (104, .iinc 5 1, 3), (107, .goto (-89), 3), (110, .goto (-103), 3), (113, .iload_n 3, 1), (114, .iload_n 2, 1), (115, .ishr, 1), (116, .iconst 1, 1), (117, .iand, 1), (118, .iconst 1, 1), (119, .if_icmp .ne 7, 3), (122, .iconst 1, 1), (123, .goto 4, 3), (126, .iconst 0, 1), (127, .ireturn, 1)]
def jK69 : List (Nat × Instr × Nat) := [(0, .aload_n 0, 1), (1, .iload_n 1, 1), (2, .invokevirtual 82, 3), (5, .ifCond .eq 11, 3), (8, .aload_n 0, 1), (9, .iload_n 2, 1), (10, .invokevirtual 82, 3), (13, .ifCond .ne 7, 3), (16, .iconst 1, 1), (17, .goto 4, 3), (20, .iconst 0, 1), (21, .istore_n 3, 1), (22, .aload_n 0, 1), (23, .iload_n 3, 1), (24, .iload_n 3, 1), (25, .ifCond .ne 30, 3), (28, .aload_n 0, 1), (29, .getfield 26, 3), (32, .bipush 16, 2), (34, .iload_n 1, 1), (35, .imul, 1), (36, .iload_n 2, 1), (37, .iadd, 1), (38, .baload, 1), (39, .ifCond .ne 12, 3), (42, .aload_n 0, 1), (43, .iload_n 2, 1), (44, .iload_n 1, 1), (45, .invokevirtual 90, 3), (48, .ifCond .eq 7, 3), (51, .iconst 1, 1), (52, .goto 4, 3), (55, .iconst 0, 1), (56, .iconst 0, 1), (57, .iconst 0, 1), (58, .invokevirtual 86, 3), (61, .ifCond .eq 4, 3), (64, .return_, 1), (65, .aload_n 0, 1), (66, .getfield 26, 3), (69, .bipush 16, 2), (71, .iload_n 1, 1), (72, .imul, 1), (73, .iload_n 2, 1), (74, .iadd, 1), (75, .iconst 1, 1), (76, .bastore, 1), (77, .return_, 1)]
def jK70 : List (Nat × Instr × Nat) := [(0, .aload_n 0, 1), (1, .iload_n 1, 1), (2, .iconst 0, 1), (3, .sipush 1000, 3), (6, .invokestatic 78, 3), (9, .ifCond .ne 7, 3), (12, .iconst 1, 1), (13, .goto 4, 3), (16, .iconst 0, 1), (17, .iconst 0, 1), (18, .iconst 0, 1), (19, .iconst 0, 1), (20, .invokevirtual 86, 3), (23, .ifCond .eq 4, 3), (26, .return_, 1), (27, .aload_n 0, 1), (28, .iload_n 1, 1), (29, .putfield 7, 3), (32, .return_, 1)]
def jK71 : List (Nat × Instr × Nat) := [(0, .aload_n 0, 1), (1, .iload_n 1, 1), (2, .aload_n 0, 1), (3, .getfield 94, 3), (6, .if_icmp .lt 10, 3), (9, .iload_n 1, 1), (10, .sipush 9999, 3), (13, .if_icmp .le 7, 3), (16, .iconst 1, 1), (17, .goto 4, 3), (20, .iconst 0, 1), (21, .iconst 0, 1), (22, .iconst 0, 1), (23, .iconst 0, 1), (24, .invokevirtual 86, 3), (27, .ifCond .eq 4, 3), (30, .return_, 1), (31, .aload_n 0, 1), (32, .iload_n 1, 1), (33, .putfield 94, 3), (36, .return_, 1)]
def jK72 : List (Nat × Instr × Nat) := [(0, .aload_n 0, 1), (1, .aload_n 0, 1), (2, .iload_n 1, 1), (3, .invokevirtual 82, 3), (6, .ifCond .ne 7, 3), (9, .iconst 1, 1), (10, .goto 4, 3), (13, .iconst 0, 1), (14, .iload_n 2, 1), (15, .iconst 0, 1), (16, .bipush 10, 2), (18, .invokestatic 78, 3), (21, .ifCond .ne 7, 3), (24, .iconst 1, 1), (25, .goto 4, 3), (28, .iconst 0, 1), (29, .iconst 0, 1), (30, .iconst 0, 1), (31, .invokevirtual 86, 3), (34, .ifCond .eq 4, 3), (37, .return_, 1), (38, .aload_n 0, 1), (39, .getfield 23, 3), (42, .iload_n 1, 1), (43, .iload_n 2, 1), (44, .iastore, 1), (45, .return_, 1)]
def jK73 : List (Nat × Instr × Nat) := [(0, .iconst (-1), 1), (1, .istore 4, 2), (3, .iconst 0, 1), (4, .istore 5, 2), (6, .iload 5, 2), (8, .aload_n 0, 1), (9, .getfield 97, 3), (12, .if_icmp .ge 61, 3), (15, .aload_n 0, 1), (16, .getfield 33, 3), (19, .iload 5, 2), (21, .iaload, 1), (22, .iload_n 1, 1), (23, .if_icmp .ne 40, 3), (26, .aload_n 0, 1), (27, .getfield 36, 3), (30, .iload 5, 2), (32, .iaload, 1), (33, .iload_n 2, 1), (34, .if_icmp .ne 29, 3), (37, .aload_n 0, 1), (38, .getfield 42, 3), (41, .iload 5, 2), (43, .baload, 1), (44, .ifCond .eq 19, 3), (47, .aload_n 0, 1), (48, .getfield 39, 3), (51, .iload 5, 2), (53, .iaload, 1), (54, .iload_n 3, 1), (55, .if_icmp .gt 8, 3), (58, .iload 5, 2), (60, .goto 5, 3), (63, .iload 4, 2), (65, .istore 4, 2), (67, .iinc 5 1, 3), (70, .goto (-64), 3), (73, .iload 4, 2), (75, .ireturn, 1)]
def jK74 : List (Nat × Instr × Nat) := [(0, .iconst 0, 1), (1, .istore_n 3, 1), (2, .iconst 0, 1), (3, .istore 4, 2), (5, .iload 4, 2), (7, .aload_n 0, 1), (8, .getfield 45, 3), (11, .iload_n 1, 1), (12, .iaload, 1), (13, .if_icmp .ge 33, 3), (16, .iload_n 3, 1), (17, .aload_n 0, 1), (18, .getfield 48, 3), (21, .bipush 50, 2), (23, .iload_n 1, 1), (24, .imul, 1), (25, .iload 4, 2), (27, .iadd, 1), (28, .iaload, 1), (29, .iload_n 2, 1), (30, .if_icmp .gt 7, 3), (33, .iconst 1, 1), (34, .goto 4, 3), (37, .iconst 0, 1), (38, .iadd, 1), (39, .istore_n 3, 1), (40, .iinc 4 1, 3), (43, .goto (-38), 3), (46, .aload_n 0, 1), (47, .getfield 39, 3), (50, .iload_n 1, 1), (51, .iaload, 1), (52, .aload_n 0, 1), (53, .getfield 13, 3), (56, .aload_n 0, 1), (57, .getfield 36, 3), (60, .iload_n 1, 1), (61, .iaload, 1), (62, .iaload, 1), (63, .iadd, 1), (64, .iload_n 3, 1), (65, .iadd, 1), (66, .ireturn, 1)]
def jK75 : List (Nat × Instr × Nat) := [(0, .aload_n 0, 1), (1, .iload_n 1, 1), (2, .iload_n 2, 1), (3, .iload_n 3, 1), (4, .invokevirtual 100, 3), (7, .istore 4, 2), (9, .iload 4, 2), (11, .ifCond .lt 18, 3), (14, .iload_n 3, 1), (15, .aload_n 0, 1), (16, .iload 4, 2), (18, .iload_n 3, 1), (19, .invokevirtual 104, 3), (22, .if_icmp .ge 7, 3), (25, .iconst 1, 1), (26, .goto 4, 3), (29, .iconst 0, 1), (30, .ireturn, 1)]
def jK76 : List (Nat × Instr × Nat) := [(0, .iconst 0, 1), (1, .istore_n 3, 1), (2, .iconst 0, 1), (3, .istore 4, 2), (5, .iload 4, 2), (7, .aload_n 0, 1), (8, .getfield 97, 3), (11, .if_icmp .ge 49, 3), (14, .aload_n 0, 1), (15, .getfield 33, 3), (18, .iload 4, 2), (20, .iaload, 1), (21, .iload_n 1, 1), (22, .if_icmp .ne 32, 3), (25, .aload_n 0, 1), (26, .getfield 36, 3), (29, .iload 4, 2), (31, .iaload, 1), (32, .iload_n 2, 1), (33, .if_icmp .ne 21, 3), (36, .aload_n 0, 1), (37, .getfield 42, 3), (40, .iload 4, 2), (42, .baload, 1), (43, .ifCond .eq 7, 3), (46, .iconst 0, 1), (47, .goto 6, 3), (50, .iload_n 3, 1), (51, .iconst 1, 1), (52, .iadd, 1), (53, .istore_n 3, 1), (54, .iinc 4 1, 3), (57, .goto (-52), 3), (60, .iload_n 3, 1), (61, .ireturn, 1)]
def jK77 : List (Nat × Instr × Nat) := [(0, .iconst (-1), 1), (1, .istore_n 3, 1), (2, .iconst 0, 1), (3, .istore 4, 2), (5, .iload 4, 2), (7, .aload_n 0, 1), (8, .getfield 97, 3), (11, .if_icmp .ge 38, 3), (14, .aload_n 0, 1), (15, .getfield 33, 3), (18, .iload 4, 2), (20, .iaload, 1), (21, .iload_n 1, 1), (22, .if_icmp .ne 19, 3), (25, .aload_n 0, 1), (26, .getfield 36, 3), (29, .iload 4, 2), (31, .iaload, 1), (32, .iload_n 2, 1), (33, .if_icmp .ne 8, 3), (36, .iload 4, 2), (38, .goto 4, 3), (41, .iload_n 3, 1), (42, .istore_n 3, 1), (43, .iinc 4 1, 3), (46, .goto (-41), 3), (49, .iload_n 3, 1), (50, .ireturn, 1)]
def jK78 : List (Nat × Instr × Nat) := [(0, .iconst 0, 1), (1, .istore_n 3, 1), (2, .iload_n 3, 1), (3, .aload_n 0, 1), (4, .getfield 75, 3), (7, .if_icmp .ge 38, 3), (10, .aload_n 0, 1), (11, .getfield 26, 3), (14, .bipush 16, 2), (16, .iload_n 2, 1), (17, .imul, 1), (18, .iload_n 3, 1), (19, .iadd, 1), (20, .baload, 1), (21, .ifCond .eq 18, 3), (24, .aload_n 0, 1), (25, .iload_n 1, 1), (26, .iload_n 3, 1), (27, .aload_n 0, 1), (28, .getfield 94, 3), (31, .invokevirtual 108, 3), (34, .ifCond .ne 5, 3), (37, .iconst 1, 1), (38, .ireturn, 1), (39, .iinc 3 1, 3), (42, .goto (-40), 3), (45, .aload_n 0, 1), (46, .getfield 30, 3), (49, .bipush 16, 2), (51, .iload_n 1, 1), (52, .imul, 1), (53, .iload_n 2, 1), (54, .iadd, 1), (55, .baload, 1), (56, .ifCond .eq 5, 3), (59, .iconst 2, 1), (60, .ireturn, 1), (61, .aload_n 0, 1), (62, .iload_n 1, 1), (63, .iload_n 2, 1), (64, .invokevirtual 111, 3), (67, .iconst 3, 1), (68, .if_icmp .lt 30, 3), (71, .aload_n 0, 1), (72, .getfield 94, 3), (75, .aload_n 0, 1), (76, .getfield 39, 3), (79, .aload_n 0, 1), (80, .iload_n 1, 1), (81, .iload_n 2, 1), (82, .invokevirtual 114, 3), (85, .iaload, 1), (86, .isub, 1), (87, .aload_n 0, 1), (88, .getfield 7, 3), (91, .if_icmp .ge 7, 3), (94, .iconst 3, 1), (95, .goto 4, 3), (98, .iconst 0, 1), (99, .ireturn, 1)]
def jK79 : List (Nat × Instr × Nat) := [(0, .aload_n 0, 1), (1, .getfield 30, 3), (4, .bipush 16, 2), (6, .iload_n 1, 1), (7, .imul, 1), (8, .iload_n 2, 1), (9, .iadd, 1), (10, .baload, 1), (11, .ifCond .eq 20, 3), (14, .aload_n 0, 1), (15, .iload_n 1, 1), (16, .iload_n 2, 1), (17, .aload_n 0, 1), (18, .getfield 94, 3), (21, .invokevirtual 108, 3), (24, .ifCond .eq 7, 3), (27, .iconst 1, 1), (28, .goto 4, 3), (31, .iconst 0, 1), (32, .ireturn, 1)]
def jK80 : List (Nat × Instr × Nat) := [(0, .iconst 0, 1), (1, .istore_n 2, 1), (2, .iconst 0, 1), (3, .istore_n 3, 1), (4, .iload_n 3, 1), (5, .bipush 20, 2), (7, .if_icmp .ge 31, 3), (10, .iload_n 2, 1), (11, .aload_n 0, 1), (12, .iload_n 3, 1), (13, .iload_n 1, 1), (14, .invokevirtual 117, 3), (17, .ifCond .eq 12, 3), (20, .aload_n 0, 1), (21, .getfield 23, 3), (24, .iload_n 1, 1), (25, .iaload, 1), (26, .goto 4, 3), (29, .iconst 0, 1), (30, .iadd, 1), (31, .istore_n 2, 1), (32, .iinc 3 1, 3), (35, .goto (-31), 3), (38, .iconst 0, 1), (39, .istore_n 3, 1), (40, .iload_n 3, 1), (41, .aload_n 0, 1), (42, .getfield 97, 3), (45, .if_icmp .ge 40, 3), (48, .iload_n 2, 1), (49, .aload_n 0, 1), (50, .getfield 36, 3), (53, .iload_n 3, 1), (54, .iaload, 1), (55, .iload_n 1, 1), (56, .if_icmp .ne 20, 3), (59, .aload_n 0, 1), (60, .getfield 39, 3), (63, .iload_n 3, 1), (64, .iaload, 1), (65, .aload_n 0, 1), (66, .getfield 94, 3), (69, .if_icmp .ne 7, 3), (72, .iconst 1, 1), (73, .goto 4, 3), (76, .iconst 0, 1), (77, .isub, 1), (78, .istore_n 2, 1), (79, .iinc 3 1, 3), (82, .goto (-42), 3), (85, .iload_n 2, 1), (86, .ifCond .ge 7, 3), (89, .iconst 0, 1), (90, .goto 4, 3), (93, .iload_n 2, 1), (94, .ireturn, 1)]
def jK81 : List (Nat × Instr × Nat) := [(0, .aload_n 0, 1), (1, .getfield 33, 3), (4, .aload_n 0, 1), (5, .getfield 97, 3), (8, .iload_n 1, 1), (9, .iastore, 1), (10, .aload_n 0, 1), (11, .getfield 36, 3), (14, .aload_n 0, 1), (15, .getfield 97, 3), (18, .iload_n 2, 1), (19, .iastore, 1), (20, .aload_n 0, 1), (21, .getfield 39, 3), (24, .aload_n 0, 1), (25, .getfield 97, 3), (28, .aload_n 0, 1), (29, .getfield 94, 3), (32, .iastore, 1), (33, .aload_n 0, 1), (34, .getfield 42, 3), (37, .aload_n 0, 1), (38, .getfield 97, 3), (41, .iload_n 3, 1), (42, .bastore, 1), (43, .aload_n 0, 1), (44, .dup, 1), (45, .getfield 97, 3), (48, .iconst 1, 1), (49, .iadd, 1), (50, .putfield 97, 3), (53, .aload_n 0, 1), (54, .getfield 97, 3), (57, .iconst 1, 1), (58, .isub, 1), (59, .ireturn, 1)]
def jK82 : List (Nat × Instr × Nat) := [(0, .aload_n 0, 1), (1, .iload_n 1, 1), (2, .iload_n 2, 1), (3, .invokevirtual 120, 3), (6, .ifCond .ne 7, 3), (9, .iconst 1, 1), (10, .goto 4, 3), (13, .iconst 0, 1), (14, .istore 4, 2), (16, .iload_n 3, 1), (17, .iconst 0, 1), (18, .bipush 100, 2), (20, .invokestatic 78, 3), (23, .ifCond .ne 7, 3), (26, .iconst 1, 1), (27, .goto 4, 3), (30, .iconst 0, 1), (31, .istore 5, 2), (33, .aload_n 0, 1), (34, .iload 4, 2), (36, .iload 5, 2), (38, .iload 4, 2), (40, .ifCond .ne 16, 3), (43, .aload_n 0, 1), (44, .iload_n 1, 1), (45, .iload_n 2, 1), (46, .invokevirtual 123, 3), (49, .ifCond .le 7, 3), (52, .iconst 1, 1), (53, .goto 4, 3), (56, .iconst 0, 1), (57, .iload 4, 2), (59, .ifCond .ne 11, 3), (62, .aload_n 0, 1), (63, .iload_n 2, 1), (64, .invokevirtual 126, 3), (67, .ifCond .eq 13, 3), (70, .aload_n 0, 1), (71, .getfield 97, 3), (74, .sipush 300, 3), (77, .if_icmp .ne 7, 3), (80, .iconst 1, 1), (81, .goto 4, 3), (84, .iconst 0, 1), (85, .invokevirtual 86, 3), (88, .ifCond .eq 5, 3), (91, .iconst 0, 1), (92, .ireturn, 1), (93, .aload_n 0, 1), (94, .iload_n 1, 1), (95, .iload_n 2, 1), (96, .iload_n 3, 1), (97, .aload_n 0, 1), (98, .getfield 17, 3), (101, .iload_n 2, 1), (102, .iaload, 1), (103, .if_icmp .lt 7, 3), (106, .iconst 1, 1), (107, .goto 4, 3), (110, .iconst 0, 1), (111, .invokevirtual 130, 3), (114, .ireturn, 1)]
def jK83 : List (Nat × Instr × Nat) := [(0, .aload_n 0, 1), (1, .iload_n 1, 1), (2, .iload_n 2, 1), (3, .invokevirtual 120, 3), (6, .ifCond .ne 7, 3), (9, .iconst 1, 1), (10, .goto 4, 3), (13, .iconst 0, 1), (14, .istore_n 3, 1), (15, .iconst 0, 1), (16, .istore 4, 2), (18, .iconst 0, 1), (19, .istore 5, 2), (21, .iload 5, 2), (23, .aload_n 0, 1), (24, .getfield 97, 3), (27, .if_icmp .ge 32, 3), (30, .iload 4, 2), (32, .ifCond .ne 14, 3), (35, .aload_n 0, 1), (36, .getfield 36, 3), (39, .iload 5, 2), (41, .iaload, 1), (42, .iload_n 2, 1), (43, .if_icmp .ne 7, 3), (46, .iconst 1, 1), (47, .goto 4, 3), (50, .iconst 0, 1), (51, .istore 4, 2), (53, .iinc 5 1, 3), (56, .goto (-35), 3), (59, .aload_n 0, 1), (60, .iload_n 3, 1), (61, .iload 4, 2), (63, .aload_n 0, 1), (64, .getfield 97, 3), (67, .sipush 300, 3), (70, .if_icmp .ne 7, 3), (73, .iconst 1, 1), (74, .goto 4, 3), (77, .iconst 0, 1), (78, .iconst 0, 1), (79, .invokevirtual 86, 3), (82, .ifCond .eq 5, 3), (85, .iconst 0, 1), (86, .ireturn, 1), (87, .aload_n 0, 1), (88, .iload_n 1, 1), (89, .iload_n 2, 1), (90, .iconst 1, 1), (91, .invokevirtual 130, 3), (94, .ireturn, 1)]
def jK84 : List (Nat × Instr × Nat) := [(0, .aload_n 0, 1), (1, .iload_n 1, 1), (2, .iload_n 2, 1), (3, .invokevirtual 120, 3), (6, .ifCond .ne 7, 3), (9, .iconst 1, 1), (10, .goto 4, 3), (13, .iconst 0, 1), (14, .istore 4, 2), (16, .aload_n 0, 1), (17, .iload 4, 2), (19, .iload 4, 2), (21, .ifCond .ne 39, 3), (24, .aload_n 0, 1), (25, .getfield 30, 3), (28, .bipush 16, 2), (30, .iload_n 1, 1), (31, .imul, 1), (32, .iload_n 2, 1), (33, .iadd, 1), (34, .baload, 1), (35, .iload_n 3, 1), (36, .if_icmp .eq 20, 3), (39, .iload_n 3, 1), (40, .ifCond .eq 20, 3), (43, .aload_n 0, 1), (44, .iload_n 1, 1), (45, .iload_n 2, 1), (46, .aload_n 0, 1), (47, .getfield 94, 3), (50, .invokevirtual 108, 3), (53, .ifCond .ne 7, 3), (56, .iconst 1, 1), (57, .goto 4, 3), (60, .iconst 0, 1), (61, .iconst 0, 1), (62, .iconst 0, 1), (63, .invokevirtual 86, 3), (66, .ifCond .eq 4, 3), (69, .return_, 1), (70, .aload_n 0, 1), (71, .getfield 30, 3), (74, .bipush 16, 2), (76, .iload_n 1, 1), (77, .imul, 1), (78, .iload_n 2, 1), (79, .iadd, 1), (80, .iload_n 3, 1), (81, .bastore, 1), (82, .return_, 1)]
def jK85 : List (Nat × Instr × Nat) := [(0, .aload_n 0, 1), (1, .iload_n 1, 1), (2, .iload_n 2, 1), (3, .invokevirtual 120, 3), (6, .ifCond .ne 7, 3), (9, .iconst 1, 1), (10, .goto 4, 3), (13, .iconst 0, 1), (14, .istore_n 3, 1), (15, .aload_n 0, 1), (16, .iload_n 3, 1), (17, .iload_n 3, 1), (18, .ifCond .ne 20, 3), (21, .aload_n 0, 1), (22, .iload_n 1, 1), (23, .iload_n 2, 1), (24, .aload_n 0, 1), (25, .getfield 94, 3), (28, .invokevirtual 108, 3), (31, .ifCond .ne 7, 3), (34, .iconst 1, 1), (35, .goto 4, 3), (38, .iconst 0, 1), (39, .iconst 0, 1), (40, .iconst 0, 1), (41, .invokevirtual 86, 3), (44, .ifCond .eq 5, 3), (47, .iconst 0, 1), (48, .ireturn, 1), (49, .aload_n 0, 1), (50, .iload_n 1, 1), (51, .iload_n 2, 1), (52, .aload_n 0, 1), (53, .getfield 94, 3), (56, .invokevirtual 100, 3), (59, .istore 4, 2), (61, .aload_n 0, 1), (62, .getfield 51, 3), (65, .bipush 16, 2), (67, .iload_n 1, 1), (68, .imul, 1), (69, .iload_n 2, 1), (70, .iadd, 1), (71, .iaload, 1), (72, .aload_n 0, 1), (73, .getfield 94, 3), (76, .if_icmp .eq 52, 3), (79, .aload_n 0, 1), (80, .getfield 45, 3), (83, .iload 4, 2), (85, .iaload, 1), (86, .aload_n 0, 1), (87, .getfield 20, 3), (90, .iload_n 2, 1), (91, .iaload, 1), (92, .if_icmp .ge 36, 3), (95, .aload_n 0, 1), (96, .getfield 48, 3), (99, .bipush 50, 2), (101, .iload 4, 2), (103, .imul, 1), (104, .aload_n 0, 1), (105, .getfield 45, 3), (108, .iload 4, 2), (110, .iaload, 1), (111, .iadd, 1), (112, .aload_n 0, 1), (113, .getfield 94, 3), (116, .iastore, 1), (117, .aload_n 0, 1), (118, .getfield 45, 3), (121, .iload 4, 2), (123, .dup2, 1), (124, .iaload, 1), (125, .iconst 1, 1), (126, .iadd, 1), (127, .iastore, 1), (128, .aload_n 0, 1), (129, .getfield 51, 3), (132, .bipush 16, 2), (134, .iload_n 1, 1), (135, .imul, 1), (136, .iload_n 2, 1), (137, .iadd, 1), (138, .aload_n 0, 1), (139, .getfield 94, 3), (142, .iastore, 1), (143, .aload_n 0, 1), (144, .getfield 45, 3), (147, .iload 4, 2), (149, .iaload, 1), (150, .ireturn, 1)]
def jK86 : List (Nat × Instr × Nat) := [(0, .aload_n 0, 1), (1, .aload_n 0, 1), (2, .iload_n 1, 1), (3, .iload_n 2, 1), (4, .invokevirtual 120, 3), (7, .ifCond .ne 7, 3), (10, .iconst 1, 1), (11, .goto 4, 3), (14, .iconst 0, 1), (15, .iload_n 3, 1), (16, .iconst 0, 1), (17, .sipush 9999, 3), (20, .invokestatic 78, 3), (23, .ifCond .ne 7, 3), (26, .iconst 1, 1), (27, .goto 4, 3), (30, .iconst 0, 1), (31, .iconst 0, 1), (32, .iconst 0, 1), (33, .invokevirtual 86, 3), (36, .ifCond .eq 5, 3), (39, .iconst 0, 1), (40, .ireturn, 1), (41, .aload_n 0, 1), (42, .iload_n 1, 1), (43, .iload_n 2, 1), (44, .iload_n 3, 1), (45, .invokevirtual 108, 3), (48, .ireturn, 1)]
def jK87 : List (Nat × Instr × Nat) := [(0, .aload_n 0, 1), (1, .aload_n 0, 1), (2, .iload_n 1, 1), (3, .iload_n 2, 1), (4, .invokevirtual 120, 3), (7, .ifCond .ne 7, 3), (10, .iconst 1, 1), (11, .goto 4, 3), (14, .iconst 0, 1), (15, .iconst 0, 1), (16, .iconst 0, 1), (17, .iconst 0, 1), (18, .invokevirtual 86, 3), (21, .ifCond .eq 5, 3), (24, .iconst 0, 1), (25, .ireturn, 1), (26, .aload_n 0, 1), (27, .iload_n 1, 1), (28, .iload_n 2, 1), (29, .aload_n 0, 1), (30, .getfield 94, 3), (33, .invokevirtual 100, 3), (36, .istore_n 3, 1), (37, .iload_n 3, 1), (38, .ifCond .ge 7, 3), (41, .iconst (-1), 1), (42, .goto 12, 3), (45, .aload_n 0, 1), (46, .iload_n 3, 1), (47, .aload_n 0, 1), (48, .getfield 94, 3), (51, .invokevirtual 104, 3), (54, .ireturn, 1)]
def jK88 : List (Nat × Instr × Nat) := [(0, .aload_n 0, 1), (1, .aload_n 0, 1), (2, .iload_n 1, 1), (3, .iload_n 2, 1), (4, .invokevirtual 120, 3), (7, .ifCond .ne 7, 3), (10, .iconst 1, 1), (11, .goto 4, 3), (14, .iconst 0, 1), (15, .iconst 0, 1), (16, .iconst 0, 1), (17, .iconst 0, 1), (18, .invokevirtual 86, 3), (21, .ifCond .eq 5, 3), (24, .iconst 0, 1), (25, .ireturn, 1), (26, .aload_n 0, 1), (27, .iload_n 1, 1), (28, .iload_n 2, 1), (29, .invokevirtual 111, 3), (32, .ireturn, 1)]
def jK89 : List (Nat × Instr × Nat) := [(0, .aload_n 0, 1), (1, .aload_n 0, 1), (2, .iload_n 1, 1), (3, .iload_n 2, 1), (4, .invokevirtual 120, 3), (7, .ifCond .ne 7, 3), (10, .iconst 1, 1), (11, .goto 4, 3), (14, .iconst 0, 1), (15, .iconst 0, 1), (16, .iconst 0, 1), (17, .iconst 0, 1), (18, .invokevirtual 86, 3), (21, .ifCond .eq 5, 3), (24, .iconst 0, 1), (25, .ireturn, 1), (26, .aload_n 0, 1), (27, .iload_n 1, 1), (28, .iload_n 2, 1), (29, .invokevirtual 123, 3), (32, .ireturn, 1)]
def jK90 : List (Nat × Instr × Nat) := [(0, .aload_n 0, 1), (1, .aload_n 0, 1), (2, .iload_n 1, 1), (3, .invokevirtual 82, 3), (6, .ifCond .ne 7, 3), (9, .iconst 1, 1), (10, .goto 4, 3), (13, .iconst 0, 1), (14, .iconst 0, 1), (15, .iconst 0, 1), (16, .iconst 0, 1), (17, .invokevirtual 86, 3), (20, .ifCond .eq 5, 3), (23, .iconst 0, 1), (24, .ireturn, 1), (25, .aload_n 0, 1), (26, .iload_n 1, 1), (27, .invokevirtual 126, 3), (30, .ireturn, 1)]
def jK91 : List (Nat × Instr × Nat) := [(0, .iconst 0, 1), (1, .istore_n 2, 1), (2, .iconst 0, 1), (3, .istore_n 3, 1), (4, .iload_n 3, 1), (5, .bipush 20, 2), (7, .if_icmp .ge 16, 3), (10, .aload_n 0, 1), (11, .getfield 66, 3), (14, .iload_n 3, 1), (15, .iconst (-1), 1), (16, .iastore, 1), (17, .iinc 3 1, 3), (20, .goto (-16), 3), (23, .iconst 0, 1), (24, .istore_n 3, 1), (25, .iload_n 3, 1), (26, .bipush 20, 2), (28, .if_icmp .ge 51, 3), (31, .aload_n 0, 1), (32, .getfield 63, 3), (35, .bipush 20, 2), (37, .iload_n 1, 1), (38, .imul, 1), (39, .iload_n 3, 1), (40, .iadd, 1), (41, .baload, 1), (42, .ifCond .eq 31, 3), (45, .aload_n 0, 1), (46, .iload_n 3, 1), (47, .invokevirtual 134, 3), (50, .ifCond .ge 23, 3), (53, .aload_n 0, 1), (54, .getfield 66, 3), (57, .iload_n 3, 1), (58, .bipush 100, 2), (60, .iload_n 1, 1), (61, .iadd, 1), (62, .iastore, 1), (63, .aload_n 0, 1), (64, .getfield 69, 3), (67, .iload_n 2, 1), (68, .iload_n 3, 1), (69, .iastore, 1), (70, .iinc 2 1, 3), (73, .iinc 3 1, 3), (76, .goto (-51), 3), (79, .iconst 0, 1), (80, .istore_n 3, 1), (81, .iload_n 3, 1), (82, .iload_n 2, 1), (83, .if_icmp .ge 114, 3), (86, .aload_n 0, 1), (87, .getfield 69, 3), (90, .iload_n 3, 1), (91, .iaload, 1), (92, .istore 4, 2), (94, .aload_n 0, 1), (95, .getfield 60, 3), (98, .iload 4, 2), (100, .iaload, 1), (101, .istore 5, 2), (103, .iload 5, 2), (105, .ifCond .ge 12, 3), (108, .aload_n 0, 1), (109, .iload 4, 2), (111, .iload_n 1, 1), (112, .invokevirtual 137, 3), (115, .iconst 1, 1), (116, .ireturn, 1), (117, .iconst 0, 1), (118, .istore 6, 2), (120, .iload 6, 2), (122, .bipush 20, 2), (124, .if_icmp .ge 67, 3), (127, .aload_n 0, 1), (128, .getfield 63, 3), (131, .bipush 20, 2), (133, .iload 5, 2), (135, .imul, 1), (136, .iload 6, 2), (138, .iadd, 1), (139, .baload, 1), (140, .ifCond .eq 45, 3), (143, .aload_n 0, 1), (144, .getfield 66, 3), (147, .iload 6, 2), (149, .iaload, 1), (150, .ifCond .ge 35, 3), (153, .aload_n 0, 1), (154, .iload 6, 2), (156, .invokevirtual 134, 3), (159, .ifCond .ge 26, 3), (162, .aload_n 0, 1), (163, .getfield 66, 3), (166, .iload 6, 2), (168, .bipush 100, 2), (170, .iload 5, 2), (172, .iadd, 1), (173, .iastore, 1), (174, .aload_n 0, 1), (175, .getfield 69, 3), (178, .iload_n 2, 1), (179, .iload 6, 2), (181, .iastore, 1), (182, .iinc 2 1, 3), (185, .iinc 6 1, 3), (188, .goto (-68), 3), (191, .iinc 3 1, 3), (194, .goto (-113), 3), (197, .iconst 0, 1), (198, .ireturn, 1)]
def jK92 : List (Nat × Instr × Nat) := [(0, .iload_n 1, 1), (1, .istore_n 3, 1), (2, .aload_n 0, 1), (3, .getfield 66, 3), (6, .iload_n 3, 1), (7, .iaload, 1), (8, .bipush 100, 2), (10, .isub, 1), (11, .istore 4, 2), (13, .iload 4, 2), (15, .iload_n 2, 1), (16, .if_icmp .eq 36, 3), (19, .aload_n 0, 1), (20, .iload 4, 2), (22, .invokevirtual 141, 3), (25, .istore 5, 2), (27, .aload_n 0, 1), (28, .getfield 60, 3), (31, .iload_n 3, 1), (32, .iload 4, 2), (34, .iastore, 1), (35, .iload 5, 2), (37, .istore_n 3, 1), (38, .aload_n 0, 1), (39, .getfield 66, 3), (42, .iload_n 3, 1), (43, .iaload, 1), (44, .bipush 100, 2), (46, .isub, 1), (47, .istore 4, 2), (49, .goto (-36), 3), (52, .aload_n 0, 1), (53, .getfield 60, 3), (56, .iload_n 3, 1), (57, .iload_n 2, 1), (58, .iastore, 1), (59, .return_, 1)]
def jK93 : List (Nat × Instr × Nat) := [(0, .iconst (-1), 1), (1, .istore_n 2, 1), (2, .iconst 0, 1), (3, .istore_n 3, 1), (4, .iload_n 3, 1), (5, .bipush 20, 2), (7, .if_icmp .ge 25, 3), (10, .aload_n 0, 1), (11, .getfield 60, 3), (14, .iload_n 3, 1), (15, .iaload, 1), (16, .iload_n 1, 1), (17, .if_icmp .ne 7, 3), (20, .iload_n 3, 1), (21, .goto 4, 3), (24, .iload_n 2, 1), (25, .istore_n 2, 1), (26, .iinc 3 1, 3), (29, .goto (-25), 3), (32, .iload_n 2, 1), (33, .ireturn, 1)]
def jK94 : List (Nat × Instr × Nat) := [(0, .iconst (-1), 1), (1, .istore_n 2, 1), (2, .iconst 0, 1), (3, .istore_n 3, 1), (4, .iload_n 3, 1), (5, .bipush 12, 2), (7, .if_icmp .ge 25, 3), (10, .aload_n 0, 1), (11, .getfield 57, 3), (14, .iload_n 3, 1), (15, .iaload, 1), (16, .iload_n 1, 1), (17, .if_icmp .ne 7, 3), (20, .iload_n 3, 1), (21, .goto 4, 3), (24, .iload_n 2, 1), (25, .istore_n 2, 1), (26, .iinc 3 1, 3), (29, .goto (-25), 3), (32, .iload_n 2, 1), (33, .ireturn, 1)]
def jK95 : List (Nat × Instr × Nat) := [(0, .iconst 0, 1), (1, .istore_n 2, 1), (2, .iload_n 2, 1), (3, .bipush 20, 2), (5, .if_icmp .ge 16, 3), (8, .aload_n 0, 1), (9, .getfield 60, 3), (12, .iload_n 2, 1), (13, .iconst (-1), 1), (14, .iastore, 1), (15, .iinc 2 1, 3), (18, .goto (-16), 3), (21, .iconst 0, 1), (22, .istore_n 2, 1), (23, .iload_n 1, 1), (24, .istore_n 3, 1), (25, .iload_n 3, 1), (26, .aload_n 0, 1), (27, .getfield 144, 3), (30, .if_icmp .ge 25, 3), (33, .iload_n 2, 1), (34, .aload_n 0, 1), (35, .iload_n 3, 1), (36, .invokevirtual 147, 3), (39, .ifCond .eq 7, 3), (42, .iconst 1, 1), (43, .goto 4, 3), (46, .iconst 0, 1), (47, .iadd, 1), (48, .istore_n 2, 1), (49, .iinc 3 1, 3), (52, .goto (-27), 3), (55, .iload_n 2, 1), (56, .ireturn, 1)]
def jK96 : List (Nat × Instr × Nat) := [(0, .iconst 0, 1), (1, .istore 5, 2), (3, .iconst 0, 1), (4, .istore 6, 2), (6, .iload 6, 2), (8, .iload_n 3, 1), (9, .if_icmp .ge 45, 3), (12, .iload 6, 2), (14, .bipush 12, 2), (16, .if_icmp .ge 38, 3), (19, .iload 5, 2), (21, .ifCond .ne 20, 3), (24, .aload_n 0, 1), (25, .lload_n 1, 1), (26, .iconst 4, 1), (27, .iload 6, 2), (29, .imul, 1), (30, .lshr, 1), (31, .l2i, 1), (32, .bipush 15, 2), (34, .iand, 1), (35, .invokevirtual 82, 3), (38, .ifCond .ne 7, 3), (41, .iconst 1, 1), (42, .goto 4, 3), (45, .iconst 0, 1), (46, .istore 5, 2), (48, .iinc 6 1, 3), (51, .goto (-45), 3), (54, .aload_n 0, 1), (55, .iload 5, 2), (57, .iload_n 3, 1), (58, .iconst 0, 1), (59, .bipush 12, 2), (61, .invokestatic 78, 3), (64, .ifCond .eq 15, 3), (67, .iload 4, 2), (69, .iconst 0, 1), (70, .sipush 2100, 3), (73, .invokestatic 78, 3), (76, .ifCond .ne 7, 3), (79, .iconst 1, 1), (80, .goto 4, 3), (83, .iconst 0, 1), (84, .iconst 0, 1), (85, .iconst 0, 1), (86, .invokevirtual 86, 3), (89, .ifCond .eq 5, 3), (92, .iconst 0, 1), (93, .ireturn, 1), (94, .aload_n 0, 1), (95, .iload_n 3, 1), (96, .putfield 144, 3), (99, .iconst 0, 1), (100, .istore 6, 2), (102, .iload 6, 2), (104, .bipush 12, 2), (106, .if_icmp .ge 17, 3), (109, .aload_n 0, 1), (110, .getfield 57, 3), (113, .iload 6, 2), (115, .iconst (-1), 1), (116, .iastore, 1), (117, .iinc 6 1, 3), (120, .goto (-18), 3), (123, .iconst 0, 1), (124, .istore 6, 2), (126, .iload 6, 2), (128, .iload_n 3, 1), (129, .if_icmp .ge 100, 3), (132, .lload_n 1, 1), (133, .iconst 4, 1), (134, .iload 6, 2), (136, .imul, 1), (137, .lshr, 1), (138, .l2i, 1), (139, .bipush 15, 2), (141, .iand, 1), (142, .istore 7, 2), (144, .iconst 0, 1), (145, .istore 8, 2), (147, .iload 8, 2), (149, .bipush 20, 2), (151, .if_icmp .ge 72, 3), (154, .aload_n 0, 1), (155, .getfield 63, 3), (158, .bipush 20, 2), (160, .iload 6, 2), (162, .imul, 1), (163, .iload 8, 2), (165, .iadd, 1), (166, .aload_n 0, 1), (167, .iload 8, 2), (169, .iload 7, 2), (171, .aload_n 0, 1), (172, .getfield 94, 3), (175, .invokevirtual 108, 3), (178, .ifCond .eq 37, 3), (181, .aload_n 0, 1), (182, .aload_n 0, 1), (183, .iload 8, 2), (185, .iload 7, 2), (187, .aload_n 0, 1), (188, .getfield 94, 3), (191, .invokevirtual 100, 3), (194, .aload_n 0, 1), (195, .getfield 94, 3), (198, .invokevirtual 104, 3), (201, .aload_n 0, 1), (202, .getfield 94, 3), (205, .isub, 1), (206, .iload 4, 2), (208, .if_icmp .gt 7, 3), (211, .iconst 1, 1), (212, .goto 4, 3), (215, .iconst 0, 1), (216, .bastore, 1), (217, .iinc 8 1, 3), (220, .goto (-73), 3), (223, .iinc 6 1, 3), (226, .goto (-100), 3), (229, .aload_n 0, 1), (230, .iconst 0, 1), (231, .invokevirtual 150, 3), (234, .istore 6, 2), (236, .iload 6, 2), (238, .istore 7, 2), (240, .iconst 0, 1), (241, .istore 8, 2), (243, .iload 8, 2), (245, .iload_n 3, 1), (246, .if_icmp .ge 112, 3), (249, .iconst (-1), 1), (250, .istore 9, 2), (252, .iconst 0, 1), (253, .istore 10, 2), (255, .iload 10, 2), (257, .bipush 20, 2), (259, .if_icmp .ge 78, 3), (262, .iload 9, 2), (264, .ifCond .ge 73, 3), (267, .aload_n 0, 1), (268, .getfield 63, 3), (271, .bipush 20, 2), (273, .iload 8, 2), (275, .imul, 1), (276, .iload 10, 2), (278, .iadd, 1), (279, .baload, 1), (280, .ifCond .eq 51, 3), (283, .aload_n 0, 1), (284, .iload 10, 2), (286, .invokevirtual 134, 3), (289, .ifCond .ge 42, 3), (292, .aload_n 0, 1), (293, .getfield 57, 3), (296, .iload 8, 2), (298, .iload 10, 2), (300, .iastore, 1), (301, .aload_n 0, 1), (302, .iload 8, 2), (304, .iconst 1, 1), (305, .iadd, 1), (306, .invokevirtual 150, 3), (309, .iload 7, 2), (311, .iconst 1, 1), (312, .isub, 1), (313, .if_icmp .ne 10, 3), (316, .iload 10, 2), (318, .istore 9, 2), (320, .goto 11, 3), (323, .aload_n 0, 1), (324, .getfield 57, 3), (327, .iload 8, 2), (329, .iconst (-1), 1), (330, .iastore, 1), (331, .iinc 10 1, 3), (334, .goto (-79), 3), (337, .iload 7, 2), (339, .iload 9, 2), (341, .ifCond .ge 7, 3), (344, .iconst 0, 1), (345, .goto 4, 3), (348, .iconst 1, 1), (349, .isub, 1), (350, .istore 7, 2), (352, .iinc 8 1, 3), (355, .goto (-112), 3), (358, .iconst 0, 1), (359, .istore 8, 2), (361, .iload 8, 2), (363, .bipush 12, 2), (365, .if_icmp .ge 23, 3), (368, .aload_n 0, 1), (369, .getfield 54, 3), (372, .iload 8, 2), (374, .aload_n 0, 1), (375, .getfield 57, 3), (378, .iload 8, 2), (380, .iaload, 1), (381, .iastore, 1), (382, .iinc 8 1, 3), (385, .goto (-24), 3), (388, .iload 6, 2), (390, .ireturn, 1)]
def jK97 : List (Nat × Instr × Nat) := [(0, .aload_n 0, 1), (1, .iload_n 1, 1), (2, .iconst 0, 1), (3, .aload_n 0, 1), (4, .getfield 144, 3), (7, .iconst 1, 1), (8, .isub, 1), (9, .invokestatic 78, 3), (12, .ifCond .ne 7, 3), (15, .iconst 1, 1), (16, .goto 4, 3), (19, .iconst 0, 1), (20, .iconst 0, 1), (21, .iconst 0, 1), (22, .iconst 0, 1), (23, .invokevirtual 86, 3), (26, .ifCond .eq 5, 3), (29, .iconst 0, 1), (30, .ireturn, 1), (31, .aload_n 0, 1), (32, .getfield 54, 3), (35, .iload_n 1, 1), (36, .iaload, 1), (37, .ireturn, 1)]
def jK98 : List (Nat × Instr × Nat) := [(0, .aload_n 0, 1), (1, .aload_n 0, 1), (2, .iload_n 1, 1), (3, .invokevirtual 82, 3), (6, .ifCond .ne 7, 3), (9, .iconst 1, 1), (10, .goto 4, 3), (13, .iconst 0, 1), (14, .iload_n 2, 1), (15, .ifCond .ge 7, 3), (18, .iconst 1, 1), (19, .goto 4, 3), (22, .iconst 0, 1), (23, .iconst 0, 1), (24, .iconst 0, 1), (25, .invokevirtual 86, 3), (28, .ifCond .eq 5, 3), (31, .iconst 0, 1), (32, .ireturn, 1), (33, .iload_n 2, 1), (34, .istore_n 3, 1), (35, .iconst 0, 1), (36, .istore 4, 2), (38, .iload 4, 2), (40, .bipush 20, 2), (42, .if_icmp .ge 61, 3), (45, .aload_n 0, 1), (46, .iload 4, 2), (48, .iload_n 1, 1), (49, .aload_n 0, 1), (50, .getfield 94, 3), (53, .invokevirtual 108, 3), (56, .ifCond .eq 41, 3), (59, .aload_n 0, 1), (60, .aload_n 0, 1), (61, .iload 4, 2), (63, .iload_n 1, 1), (64, .aload_n 0, 1), (65, .getfield 94, 3), (68, .invokevirtual 100, 3), (71, .aload_n 0, 1), (72, .getfield 94, 3), (75, .invokevirtual 104, 3), (78, .aload_n 0, 1), (79, .getfield 94, 3), (82, .iconst 1, 1), (83, .iadd, 1), (84, .if_icmp .ne 13, 3), (87, .iload_n 3, 1), (88, .ifCond .ne 6, 3), (91, .iload 4, 2), (93, .ireturn, 1), (94, .iinc 3 (-1), 3), (97, .iinc 4 1, 3), (100, .goto (-62), 3), (103, .iconst (-1), 1), (104, .ireturn, 1)]
def jK99 : List (Nat × Instr × Nat) := [(0, .aload_n 0, 1), (1, .iload_n 1, 1), (2, .iconst 0, 1), (3, .iconst 3, 1), (4, .invokestatic 78, 3), (7, .ifCond .ne 7, 3), (10, .iconst 1, 1), (11, .goto 4, 3), (14, .iconst 0, 1), (15, .iconst 0, 1), (16, .iconst 0, 1), (17, .iconst 0, 1), (18, .invokevirtual 86, 3), (21, .ifCond .eq 5, 3), (24, .iconst 0, 1), (25, .ireturn, 1), (26, .iconst 0, 1), (27, .istore_n 2, 1), (28, .iconst 0, 1), (29, .istore_n 3, 1), (30, .iload_n 3, 1), (31, .aload_n 0, 1), (32, .getfield 97, 3), (35, .if_icmp .ge 26, 3), (38, .iload_n 2, 1), (39, .aload_n 0, 1), (40, .getfield 42, 3), (43, .iload_n 3, 1), (44, .baload, 1), (45, .ifCond .eq 7, 3), (48, .iconst 1, 1), (49, .goto 4, 3), (52, .iconst 0, 1), (53, .iadd, 1), (54, .istore_n 2, 1), (55, .iinc 3 1, 3), (58, .goto (-28), 3), (61, .iconst 0, 1), (62, .istore_n 3, 1), (63, .iconst 0, 1), (64, .istore 4, 2), (66, .iload 4, 2), (68, .aload_n 0, 1), (69, .getfield 75, 3), (72, .if_icmp .ge 44, 3), (75, .iconst 0, 1), (76, .istore 5, 2), (78, .iload 5, 2), (80, .bipush 20, 2), (82, .if_icmp .ge 28, 3), (85, .iload_n 3, 1), (86, .aload_n 0, 1), (87, .iload 5, 2), (89, .iload 4, 2), (91, .invokevirtual 117, 3), (94, .ifCond .eq 7, 3), (97, .iconst 1, 1), (98, .goto 4, 3), (101, .iconst 0, 1), (102, .iadd, 1), (103, .istore_n 3, 1), (104, .iinc 5 1, 3), (107, .goto (-29), 3), (110, .iinc 4 1, 3), (113, .goto (-47), 3), (116, .iload_n 1, 1), (117, .ifCond .ne 10, 3), (120, .aload_n 0, 1), (121, .getfield 75, 3), (124, .goto 25, 3), (127, .iload_n 1, 1), (128, .iconst 1, 1), (129, .if_icmp .ne 10, 3), (132, .aload_n 0, 1), (133, .getfield 97, 3), (136, .goto 13, 3), (139, .iload_n 1, 1), (140, .iconst 2, 1), (141, .if_icmp .ne 7, 3), (144, .iload_n 2, 1), (145, .goto 4, 3), (148, .iload_n 3, 1), (149, .ireturn, 1)]
def jK100 : List (Nat × Instr × Nat) := [(0, .aload 4, 2), (2, .iconst 0, 1), (3, .aload_n 0, 1), (4, .iload_n 1, 1), (5, .iload_n 2, 1), (6, .iload_n 3, 1), (7, .invokevirtual 7, 3), (10, .i2l, 1), (11, .lastore, 1), (12, .goto 11, 3), (15, .astore 5, 2), (17, .iconst 1, 1), (18, .ireturn, 1), (19, .astore 5, 2), (21, .iconst 2, 1), (22, .ireturn, 1), (23, .iconst 0, 1), (24, .ireturn, 1)]
def jK101 : List (Nat × Instr × Nat) := [(0, .aload_n 0, 1), (1, .iload_n 1, 1), (2, .iload_n 2, 1), (3, .invokevirtual 17, 3), (6, .goto 9, 3), (9, .astore_n 3, 1), (10, .iconst 1, 1), (11, .ireturn, 1), (12, .astore_n 3, 1), (13, .iconst 2, 1), (14, .ireturn, 1), (15, .iconst 0, 1), (16, .ireturn, 1)]
def jK102 : List (Nat × Instr × Nat) := [(0, .aload_n 0, 1), (1, .iload_n 1, 1), (2, .invokevirtual 25, 3), (5, .goto 6, 3), (8, .astore_n 2, 1), (9, .iconst 1, 1), (10, .ireturn, 1), (11, .iconst 0, 1), (12, .ireturn, 1)]
def jK103 : List (Nat × Instr × Nat) := [(0, .aload_n 0, 1), (1, .iload_n 1, 1), (2, .invokevirtual 29, 3), (5, .goto 6, 3), (8, .astore_n 2, 1), (9, .iconst 1, 1), (10, .ireturn, 1), (11, .iconst 0, 1), (12, .ireturn, 1)]
def jK104 : List (Nat × Instr × Nat) := [(0, .aload_n 0, 1), (1, .iload_n 1, 1), (2, .iload_n 2, 1), (3, .invokevirtual 32, 3), (6, .goto 9, 3), (9, .astore_n 3, 1), (10, .iconst 1, 1), (11, .ireturn, 1), (12, .astore_n 3, 1), (13, .iconst 2, 1), (14, .ireturn, 1), (15, .iconst 0, 1), (16, .ireturn, 1)]
def jK105 : List (Nat × Instr × Nat) := [(0, .aload 4, 2), (2, .iconst 0, 1), (3, .aload_n 0, 1), (4, .iload_n 1, 1), (5, .iload_n 2, 1), (6, .iload_n 3, 1), (7, .invokevirtual 35, 3), (10, .i2l, 1), (11, .lastore, 1), (12, .goto 19, 3), (15, .astore 5, 2), (17, .iconst 1, 1), (18, .ireturn, 1), (19, .astore 5, 2), (21, .iconst 2, 1), (22, .ireturn, 1), (23, .astore 5, 2), (25, .iconst 3, 1), (26, .ireturn, 1), (27, .astore 5, 2), (29, .iconst 4, 1), (30, .ireturn, 1), (31, .iconst 0, 1), (32, .ireturn, 1)]
def jK106 : List (Nat × Instr × Nat) := [(0, .aload_n 3, 1), (1, .iconst 0, 1), (2, .aload_n 0, 1), (3, .iload_n 1, 1), (4, .iload_n 2, 1), (5, .invokevirtual 38, 3), (8, .i2l, 1), (9, .lastore, 1), (10, .goto 15, 3), (13, .astore 4, 2), (15, .iconst 1, 1), (16, .ireturn, 1), (17, .astore 4, 2), (19, .iconst 2, 1), (20, .ireturn, 1), (21, .astore 4, 2), (23, .iconst 3, 1), (24, .ireturn, 1), (25, .iconst 0, 1), (26, .ireturn, 1)]
def jK107 : List (Nat × Instr × Nat) := [(0, .aload_n 0, 1), (1, .iload_n 1, 1), (2, .iload_n 2, 1), (3, .iload_n 3, 1), (4, .invokevirtual 42, 3), (7, .goto 11, 3), (10, .astore 4, 2), (12, .iconst 1, 1), (13, .ireturn, 1), (14, .astore 4, 2), (16, .iconst 2, 1), (17, .ireturn, 1), (18, .iconst 0, 1), (19, .ireturn, 1)]
def jK108 : List (Nat × Instr × Nat) := [(0, .aload_n 3, 1), (1, .iconst 0, 1), (2, .aload_n 0, 1), (3, .iload_n 1, 1), (4, .iload_n 2, 1), (5, .invokevirtual 46, 3), (8, .i2l, 1), (9, .lastore, 1), (10, .goto 11, 3), (13, .astore 4, 2), (15, .iconst 1, 1), (16, .ireturn, 1), (17, .astore 4, 2), (19, .iconst 2, 1), (20, .ireturn, 1), (21, .iconst 0, 1), (22, .ireturn, 1)]
def jK109 : List (Nat × Instr × Nat) := [(0, .aload 4, 2), (2, .iconst 0, 1), (3, .aload_n 0, 1), (4, .iload_n 1, 1), (5, .iload_n 2, 1), (6, .iload_n 3, 1), (7, .invokevirtual 49, 3), (10, .ifCond .eq 7, 3), (13, .lconst 1, 1), (14, .goto 4, 3), (17, .lconst 0, 1), (18, .lastore, 1), (19, .goto 11, 3), (22, .astore 5, 2), (24, .iconst 1, 1), (25, .ireturn, 1), (26, .astore 5, 2), (28, .iconst 2, 1), (29, .ireturn, 1), (30, .iconst 0, 1), (31, .ireturn, 1)]
def jK110 : List (Nat × Instr × Nat) := [(0, .aload_n 3, 1), (1, .iconst 0, 1), (2, .aload_n 0, 1), (3, .iload_n 1, 1), (4, .iload_n 2, 1), (5, .invokevirtual 53, 3), (8, .i2l, 1), (9, .lastore, 1), (10, .goto 7, 3), (13, .astore 4, 2), (15, .iconst 1, 1), (16, .ireturn, 1), (17, .iconst 0, 1), (18, .ireturn, 1)]
def jK111 : List (Nat × Instr × Nat) := [(0, .aload_n 3, 1), (1, .iconst 0, 1), (2, .aload_n 0, 1), (3, .iload_n 1, 1), (4, .iload_n 2, 1), (5, .invokevirtual 56, 3), (8, .i2l, 1), (9, .lastore, 1), (10, .goto 7, 3), (13, .astore 4, 2), (15, .iconst 1, 1), (16, .ireturn, 1), (17, .iconst 0, 1), (18, .ireturn, 1)]
def jK112 : List (Nat × Instr × Nat) := [(0, .aload_n 3, 1), (1, .iconst 0, 1), (2, .aload_n 0, 1), (3, .iload_n 1, 1), (4, .iload_n 2, 1), (5, .invokevirtual 59, 3), (8, .i2l, 1), (9, .lastore, 1), (10, .goto 7, 3), (13, .astore 4, 2), (15, .iconst 1, 1), (16, .ireturn, 1), (17, .iconst 0, 1), (18, .ireturn, 1)]
def jK113 : List (Nat × Instr × Nat) := [(0, .aload_n 2, 1), (1, .iconst 0, 1), (2, .aload_n 0, 1), (3, .iload_n 1, 1), (4, .invokevirtual 62, 3), (7, .i2l, 1), (8, .lastore, 1), (9, .goto 6, 3), (12, .astore_n 3, 1), (13, .iconst 1, 1), (14, .ireturn, 1), (15, .iconst 0, 1), (16, .ireturn, 1)]
def jK114 : List (Nat × Instr × Nat) := [(0, .aload 5, 2), (2, .iconst 0, 1), (3, .aload_n 0, 1), (4, .lload_n 1, 1), (5, .iload_n 3, 1), (6, .iload 4, 2), (8, .invokevirtual 66, 3), (11, .i2l, 1), (12, .lastore, 1), (13, .goto 11, 3), (16, .astore 6, 2), (18, .iconst 1, 1), (19, .ireturn, 1), (20, .astore 6, 2), (22, .iconst 2, 1), (23, .ireturn, 1), (24, .iconst 0, 1), (25, .ireturn, 1)]
def jK115 : List (Nat × Instr × Nat) := [(0, .aload_n 2, 1), (1, .iconst 0, 1), (2, .aload_n 0, 1), (3, .iload_n 1, 1), (4, .invokevirtual 70, 3), (7, .i2l, 1), (8, .lastore, 1), (9, .goto 6, 3), (12, .astore_n 3, 1), (13, .iconst 1, 1), (14, .ireturn, 1), (15, .iconst 0, 1), (16, .ireturn, 1)]
def jK116 : List (Nat × Instr × Nat) := [(0, .aload_n 3, 1), (1, .iconst 0, 1), (2, .aload_n 0, 1), (3, .iload_n 1, 1), (4, .iload_n 2, 1), (5, .invokevirtual 73, 3), (8, .i2l, 1), (9, .lastore, 1), (10, .goto 11, 3), (13, .astore 4, 2), (15, .iconst 1, 1), (16, .ireturn, 1), (17, .astore 4, 2), (19, .iconst 2, 1), (20, .ireturn, 1), (21, .iconst 0, 1), (22, .ireturn, 1)]
def jK117 : List (Nat × Instr × Nat) := [(0, .aload_n 2, 1), (1, .iconst 0, 1), (2, .aload_n 0, 1), (3, .iload_n 1, 1), (4, .invokevirtual 76, 3), (7, .i2l, 1), (8, .lastore, 1), (9, .goto 6, 3), (12, .astore_n 3, 1), (13, .iconst 1, 1), (14, .ireturn, 1), (15, .iconst 0, 1), (16, .ireturn, 1)]
def jK118_0 : List (Nat × Instr × Nat) := [(0, .new 8, 3), (3, .dup, 1), (4, .invokespecial 79, 3), (7, .astore_n 1, 1), (8, .new 80, 3), (11, .dup, 1), (12, .invokespecial 82, 3), (15, .astore_n 2, 1), (16, .iconst 1, 1), (17, .newarray .long, 2), (19, .astore_n 3, 1), (20, .iconst 0, 1), (21, .istore 4, 2), (23, .iload 4, 2), (25, .aload_n 0, 1), (26, .arraylength, 1), (27, .iconst 5, 1), (28, .isub, 1), (29, .if_icmp .gt 1280, 3), (32, .aload_n 0, 1), (33, .iload 4, 2), (35, .iaload, 1), (36, .bipush 31, 2), (38, .iand, 1), (39, .tableswitch 1264 0 17 #[85, 165, 213, 249, 285, 333, 413, 481, 557, 625, 712, 780, 848, 916, 972, 1084, 1140, 1208], 85), (124, .aload_n 1, 1), (125, .aload_n 0, 1), (126, .iload 4, 2), (128, .iconst 1, 1), (129, .iadd, 1), (130, .iaload, 1), (131, .aload_n 0, 1), (132, .iload 4, 2), (134, .iconst 2, 1), (135, .iadd, 1), (136, .iaload, 1), (137, .aload_n 0, 1), (138, .iload 4, 2), (140, .iconst 3, 1), (141, .iadd, 1), (142, .iaload, 1), (143, .aload_n 3, 1), (144, .invokestatic 83, 3), (147, .istore 5, 2), (149, .aload_n 2, 1), (150, .aload_n 0, 1), (151, .iload 4, 2), (153, .iconst 1, 1), (154, .iadd, 1), (155, .iaload, 1), (156, .aload_n 0, 1), (157, .iload 4, 2), (159, .iconst 2, 1), (160, .iadd, 1), (161, .iaload, 1), (162, .aload_n 0, 1), (163, .iload 4, 2), (165, .iconst 3, 1), (166, .iadd, 1), (167, .iaload, 1), (168, .invokevirtual 88, 3), (171, .istore 6, 2), (173, .aload_n 2, 1), (174, .invokevirtual 89, 3), (177, .iload 5, 2), (179, .if_icmp .eq 5, 3), (182, .iconst 0, 1), (183, .ireturn, 1), (184, .iload 5, 2), (186, .ifCond .ne 15, 3), (189, .aload_n 3, 1), (190, .iconst 0, 1), (191, .laload, 1), (192, .iload 6, 2), (194, .i2l, 1), (195, .lcmp, 1), (196, .ifCond .eq 5, 3), (199, .iconst 0, 1), (200, .ireturn, 1), (201, .goto 1102, 3), (204, .aload_n 1, 1), (205, .aload_n 0, 1), (206, .iload 4, 2), (208, .iconst 1, 1), (209, .iadd, 1), (210, .iaload, 1), (211, .aload_n 0, 1), (212, .iload 4, 2), (214, .iconst 2, 1), (215, .iadd, 1), (216, .iaload, 1), (217, .invokestatic 93, 3), (220, .istore 5, 2), (222, .aload_n 2, 1), (223, .aload_n 0, 1), (224, .iload 4, 2), (226, .iconst 1, 1), (227, .iadd, 1), (228, .iaload, 1), (229, .aload_n 0, 1)]
def jK118_1 : List (Nat × Instr × Nat) := [(230, .iload 4, 2), (232, .iconst 2, 1), (233, .iadd, 1), (234, .iaload, 1), (235, .invokevirtual 96, 3), (238, .aload_n 2, 1), (239, .invokevirtual 89, 3), (242, .iload 5, 2), (244, .if_icmp .eq 5, 3), (247, .iconst 0, 1), (248, .ireturn, 1), (249, .goto 1054, 3), (252, .aload_n 1, 1), (253, .aload_n 0, 1), (254, .iload 4, 2), (256, .iconst 1, 1), (257, .iadd, 1), (258, .iaload, 1), (259, .invokestatic 97, 3), (262, .istore 5, 2), (264, .aload_n 2, 1), (265, .aload_n 0, 1), (266, .iload 4, 2), (268, .iconst 1, 1), (269, .iadd, 1), (270, .iaload, 1), (271, .invokevirtual 100, 3), (274, .aload_n 2, 1), (275, .invokevirtual 89, 3), (278, .iload 5, 2), (280, .if_icmp .eq 5, 3), (283, .iconst 0, 1), (284, .ireturn, 1), (285, .goto 1018, 3), (288, .aload_n 1, 1), (289, .aload_n 0, 1), (290, .iload 4, 2), (292, .iconst 1, 1), (293, .iadd, 1), (294, .iaload, 1), (295, .invokestatic 101, 3), (298, .istore 5, 2), (300, .aload_n 2, 1), (301, .aload_n 0, 1), (302, .iload 4, 2), (304, .iconst 1, 1), (305, .iadd, 1), (306, .iaload, 1), (307, .invokevirtual 103, 3), (310, .aload_n 2, 1), (311, .invokevirtual 89, 3), (314, .iload 5, 2), (316, .if_icmp .eq 5, 3), (319, .iconst 0, 1), (320, .ireturn, 1), (321, .goto 982, 3), (324, .aload_n 1, 1), (325, .aload_n 0, 1), (326, .iload 4, 2), (328, .iconst 1, 1), (329, .iadd, 1), (330, .iaload, 1), (331, .aload_n 0, 1), (332, .iload 4, 2), (334, .iconst 2, 1), (335, .iadd, 1), (336, .iaload, 1), (337, .invokestatic 104, 3), (340, .istore 5, 2), (342, .aload_n 2, 1), (343, .aload_n 0, 1), (344, .iload 4, 2), (346, .iconst 1, 1), (347, .iadd, 1), (348, .iaload, 1), (349, .aload_n 0, 1), (350, .iload 4, 2), (352, .iconst 2, 1), (353, .iadd, 1), (354, .iaload, 1), (355, .invokevirtual 106, 3), (358, .aload_n 2, 1), (359, .invokevirtual 89, 3), (362, .iload 5, 2), (364, .if_icmp .eq 5, 3), (367, .iconst 0, 1), (368, .ireturn, 1), (369, .goto 934, 3), (372, .aload_n 1, 1), (373, .aload_n 0, 1), (374, .iload 4, 2), (376, .iconst 1, 1), (377, .iadd, 1), (378, .iaload, 1), (379, .aload_n 0, 1), (380, .iload 4, 2), (382, .iconst 2, 1), (383, .iadd, 1), (384, .iaload, 1), (385, .aload_n 0, 1)]
def jK118_2 : List (Nat × Instr × Nat) := [(386, .iload 4, 2), (388, .iconst 3, 1), (389, .iadd, 1), (390, .iaload, 1), (391, .aload_n 3, 1), (392, .invokestatic 107, 3), (395, .istore 5, 2), (397, .aload_n 2, 1), (398, .aload_n 0, 1), (399, .iload 4, 2), (401, .iconst 1, 1), (402, .iadd, 1), (403, .iaload, 1), (404, .aload_n 0, 1), (405, .iload 4, 2), (407, .iconst 2, 1), (408, .iadd, 1), (409, .iaload, 1), (410, .aload_n 0, 1), (411, .iload 4, 2), (413, .iconst 3, 1), (414, .iadd, 1), (415, .iaload, 1), (416, .invokevirtual 109, 3), (419, .istore 6, 2), (421, .aload_n 2, 1), (422, .invokevirtual 89, 3), (425, .iload 5, 2), (427, .if_icmp .eq 5, 3), (430, .iconst 0, 1), (431, .ireturn, 1), (432, .iload 5, 2), (434, .ifCond .ne 15, 3), (437, .aload_n 3, 1), (438, .iconst 0, 1), (439, .laload, 1), (440, .iload 6, 2), (442, .i2l, 1), (443, .lcmp, 1), (444, .ifCond .eq 5, 3), (447, .iconst 0, 1), (448, .ireturn, 1), (449, .goto 854, 3), (452, .aload_n 1, 1), (453, .aload_n 0, 1), (454, .iload 4, 2), (456, .iconst 1, 1), (457, .iadd, 1), (458, .iaload, 1), (459, .aload_n 0, 1), (460, .iload 4, 2), (462, .iconst 2, 1), (463, .iadd, 1), (464, .iaload, 1), (465, .aload_n 3, 1), (466, .invokestatic 110, 3), (469, .istore 5, 2), (471, .aload_n 2, 1), (472, .aload_n 0, 1), (473, .iload 4, 2), (475, .iconst 1, 1), (476, .iadd, 1), (477, .iaload, 1), (478, .aload_n 0, 1), (479, .iload 4, 2), (481, .iconst 2, 1), (482, .iadd, 1), (483, .iaload, 1), (484, .invokevirtual 113, 3), (487, .istore 6, 2), (489, .aload_n 2, 1), (490, .invokevirtual 89, 3), (493, .iload 5, 2), (495, .if_icmp .eq 5, 3), (498, .iconst 0, 1), (499, .ireturn, 1), (500, .iload 5, 2), (502, .ifCond .ne 15, 3), (505, .aload_n 3, 1), (506, .iconst 0, 1), (507, .laload, 1), (508, .iload 6, 2), (510, .i2l, 1), (511, .lcmp, 1), (512, .ifCond .eq 5, 3), (515, .iconst 0, 1), (516, .ireturn, 1), (517, .goto 786, 3), (520, .aload_n 1, 1), (521, .aload_n 0, 1), (522, .iload 4, 2), (524, .iconst 1, 1), (525, .iadd, 1), (526, .iaload, 1), (527, .aload_n 0, 1), (528, .iload 4, 2), (530, .iconst 2, 1), (531, .iadd, 1), (532, .iaload, 1), (533, .aload_n 0, 1)]
def jK118_3 : List (Nat × Instr × Nat) := [(534, .iload 4, 2), (536, .iconst 3, 1), (537, .iadd, 1), (538, .iaload, 1), (539, .ifCond .eq 7, 3), (542, .iconst 1, 1), (543, .goto 4, 3), (546, .iconst 0, 1), (547, .invokestatic 114, 3), (550, .istore 5, 2), (552, .aload_n 2, 1), (553, .aload_n 0, 1), (554, .iload 4, 2), (556, .iconst 1, 1), (557, .iadd, 1), (558, .iaload, 1), (559, .aload_n 0, 1), (560, .iload 4, 2), (562, .iconst 2, 1), (563, .iadd, 1), (564, .iaload, 1), (565, .aload_n 0, 1), (566, .iload 4, 2), (568, .iconst 3, 1), (569, .iadd, 1), (570, .iaload, 1), (571, .ifCond .eq 7, 3), (574, .iconst 1, 1), (575, .goto 4, 3), (578, .iconst 0, 1), (579, .invokevirtual 117, 3), (582, .aload_n 2, 1), (583, .invokevirtual 89, 3), (586, .iload 5, 2), (588, .if_icmp .eq 5, 3), (591, .iconst 0, 1), (592, .ireturn, 1), (593, .goto 710, 3), (596, .aload_n 1, 1), (597, .aload_n 0, 1), (598, .iload 4, 2), (600, .iconst 1, 1), (601, .iadd, 1), (602, .iaload, 1), (603, .aload_n 0, 1), (604, .iload 4, 2), (606, .iconst 2, 1), (607, .iadd, 1), (608, .iaload, 1), (609, .aload_n 3, 1), (610, .invokestatic 118, 3), (613, .istore 5, 2), (615, .aload_n 2, 1), (616, .aload_n 0, 1), (617, .iload 4, 2), (619, .iconst 1, 1), (620, .iadd, 1), (621, .iaload, 1), (622, .aload_n 0, 1), (623, .iload 4, 2), (625, .iconst 2, 1), (626, .iadd, 1), (627, .iaload, 1), (628, .invokevirtual 120, 3), (631, .istore 6, 2), (633, .aload_n 2, 1), (634, .invokevirtual 89, 3), (637, .iload 5, 2), (639, .if_icmp .eq 5, 3), (642, .iconst 0, 1), (643, .ireturn, 1), (644, .iload 5, 2), (646, .ifCond .ne 15, 3), (649, .aload_n 3, 1), (650, .iconst 0, 1), (651, .laload, 1), (652, .iload 6, 2), (654, .i2l, 1), (655, .lcmp, 1), (656, .ifCond .eq 5, 3), (659, .iconst 0, 1), (660, .ireturn, 1), (661, .goto 642, 3), (664, .aload_n 1, 1), (665, .aload_n 0, 1), (666, .iload 4, 2), (668, .iconst 1, 1), (669, .iadd, 1), (670, .iaload, 1), (671, .aload_n 0, 1), (672, .iload 4, 2), (674, .iconst 2, 1), (675, .iadd, 1), (676, .iaload, 1), (677, .aload_n 0, 1), (678, .iload 4, 2), (680, .iconst 3, 1), (681, .iadd, 1), (682, .iaload, 1), (683, .aload_n 3, 1)]
def jK118_4 : List (Nat × Instr × Nat) := [(684, .invokestatic 121, 3), (687, .istore 5, 2), (689, .aload_n 2, 1), (690, .aload_n 0, 1), (691, .iload 4, 2), (693, .iconst 1, 1), (694, .iadd, 1), (695, .iaload, 1), (696, .aload_n 0, 1), (697, .iload 4, 2), (699, .iconst 2, 1), (700, .iadd, 1), (701, .iaload, 1), (702, .aload_n 0, 1), (703, .iload 4, 2), (705, .iconst 3, 1), (706, .iadd, 1), (707, .iaload, 1), (708, .invokevirtual 123, 3), (711, .istore 6, 2), (713, .aload_n 2, 1), (714, .invokevirtual 89, 3), (717, .iload 5, 2), (719, .if_icmp .eq 5, 3), (722, .iconst 0, 1), (723, .ireturn, 1), (724, .iload 5, 2), (726, .ifCond .ne 22, 3), (729, .aload_n 3, 1), (730, .iconst 0, 1), (731, .laload, 1), (732, .iload 6, 2), (734, .ifCond .eq 7, 3), (737, .lconst 1, 1), (738, .goto 4, 3), (741, .lconst 0, 1), (742, .lcmp, 1), (743, .ifCond .eq 5, 3), (746, .iconst 0, 1), (747, .ireturn, 1), (748, .goto 555, 3), (751, .aload_n 1, 1), (752, .aload_n 0, 1), (753, .iload 4, 2), (755, .iconst 1, 1), (756, .iadd, 1), (757, .iaload, 1), (758, .aload_n 0, 1), (759, .iload 4, 2), (761, .iconst 2, 1), (762, .iadd, 1), (763, .iaload, 1), (764, .aload_n 3, 1), (765, .invokestatic 124, 3), (768, .istore 5, 2), (770, .aload_n 2, 1), (771, .aload_n 0, 1), (772, .iload 4, 2), (774, .iconst 1, 1), (775, .iadd, 1), (776, .iaload, 1), (777, .aload_n 0, 1), (778, .iload 4, 2), (780, .iconst 2, 1), (781, .iadd, 1), (782, .iaload, 1), (783, .invokevirtual 126, 3), (786, .istore 6, 2), (788, .aload_n 2, 1), (789, .invokevirtual 89, 3), (792, .iload 5, 2), (794, .if_icmp .eq 5, 3), (797, .iconst 0, 1), (798, .ireturn, 1), (799, .iload 5, 2), (801, .ifCond .ne 15, 3), (804, .aload_n 3, 1), (805, .iconst 0, 1), (806, .laload, 1), (807, .iload 6, 2), (809, .i2l, 1), (810, .lcmp, 1), (811, .ifCond .eq 5, 3), (814, .iconst 0, 1), (815, .ireturn, 1), (816, .goto 487, 3), (819, .aload_n 1, 1), (820, .aload_n 0, 1), (821, .iload 4, 2), (823, .iconst 1, 1), (824, .iadd, 1), (825, .iaload, 1), (826, .aload_n 0, 1), (827, .iload 4, 2), (829, .iconst 2, 1), (830, .iadd, 1), (831, .iaload, 1), (832, .aload_n 3, 1), (833, .invokestatic 127, 3), (836, .istore 5, 2)]
def jK118_5 : List (Nat × Instr × Nat) := [(838, .aload_n 2, 1), (839, .aload_n 0, 1), (840, .iload 4, 2), (842, .iconst 1, 1), (843, .iadd, 1), (844, .iaload, 1), (845, .aload_n 0, 1), (846, .iload 4, 2), (848, .iconst 2, 1), (849, .iadd, 1), (850, .iaload, 1), (851, .invokevirtual 129, 3), (854, .istore 6, 2), (856, .aload_n 2, 1), (857, .invokevirtual 89, 3), (860, .iload 5, 2), (862, .if_icmp .eq 5, 3), (865, .iconst 0, 1), (866, .ireturn, 1), (867, .iload 5, 2), (869, .ifCond .ne 15, 3), (872, .aload_n 3, 1), (873, .iconst 0, 1), (874, .laload, 1), (875, .iload 6, 2), (877, .i2l, 1), (878, .lcmp, 1), (879, .ifCond .eq 5, 3), (882, .iconst 0, 1), (883, .ireturn, 1), (884, .goto 419, 3), (887, .aload_n 1, 1), (888, .aload_n 0, 1), (889, .iload 4, 2), (891, .iconst 1, 1), (892, .iadd, 1), (893, .iaload, 1), (894, .aload_n 0, 1), (895, .iload 4, 2), (897, .iconst 2, 1), (898, .iadd, 1), (899, .iaload, 1), (900, .aload_n 3, 1), (901, .invokestatic 130, 3), (904, .istore 5, 2), (906, .aload_n 2, 1), (907, .aload_n 0, 1), (908, .iload 4, 2), (910, .iconst 1, 1), (911, .iadd, 1), (912, .iaload, 1), (913, .aload_n 0, 1), (914, .iload 4, 2), (916, .iconst 2, 1), (917, .iadd, 1), (918, .iaload, 1), (919, .invokevirtual 132, 3), (922, .istore 6, 2), (924, .aload_n 2, 1), (925, .invokevirtual 89, 3), (928, .iload 5, 2), (930, .if_icmp .eq 5, 3), (933, .iconst 0, 1), (934, .ireturn, 1), (935, .iload 5, 2), (937, .ifCond .ne 15, 3), (940, .aload_n 3, 1), (941, .iconst 0, 1), (942, .laload, 1), (943, .iload 6, 2), (945, .i2l, 1), (946, .lcmp, 1), (947, .ifCond .eq 5, 3), (950, .iconst 0, 1), (951, .ireturn, 1), (952, .goto 351, 3), (955, .aload_n 1, 1), (956, .aload_n 0, 1), (957, .iload 4, 2), (959, .iconst 1, 1), (960, .iadd, 1), (961, .iaload, 1), (962, .aload_n 3, 1), (963, .invokestatic 133, 3), (966, .istore 5, 2), (968, .aload_n 2, 1), (969, .aload_n 0, 1), (970, .iload 4, 2), (972, .iconst 1, 1), (973, .iadd, 1), (974, .iaload, 1), (975, .invokevirtual 136, 3), (978, .istore 6, 2), (980, .aload_n 2, 1), (981, .invokevirtual 89, 3), (984, .iload 5, 2), (986, .if_icmp .eq 5, 3), (989, .iconst 0, 1), (990, .ireturn, 1), (991, .iload 5, 2)]
def jK118_6 : List (Nat × Instr × Nat) := [(993, .ifCond .ne 15, 3), (996, .aload_n 3, 1), (997, .iconst 0, 1), (998, .laload, 1), (999, .iload 6, 2), (1001, .i2l, 1), (1002, .lcmp, 1), (1003, .ifCond .eq 5, 3), (1006, .iconst 0, 1), (1007, .ireturn, 1), (1008, .goto 295, 3), (1011, .aload_n 1, 1), (1012, .aload_n 0, 1), (1013, .iload 4, 2), (1015, .iconst 1, 1), (1016, .iadd, 1), (1017, .iaload, 1), (1018, .i2l, 1), (1019, .bipush 32, 2), (1021, .lshl, 1), (1022, .aload_n 0, 1), (1023, .iload 4, 2), (1025, .iconst 2, 1), (1026, .iadd, 1), (1027, .iaload, 1), (1028, .i2l, 1), (1029, .ldc2_w 137, 3), (1032, .land, 1), (1033, .lor, 1), (1034, .aload_n 0, 1), (1035, .iload 4, 2), (1037, .iconst 3, 1), (1038, .iadd, 1), (1039, .iaload, 1), (1040, .aload_n 0, 1), (1041, .iload 4, 2), (1043, .iconst 4, 1), (1044, .iadd, 1), (1045, .iaload, 1), (1046, .aload_n 3, 1), (1047, .invokestatic 139, 3), (1050, .istore 5, 2), (1052, .aload_n 2, 1), (1053, .aload_n 0, 1), (1054, .iload 4, 2), (1056, .iconst 1, 1), (1057, .iadd, 1), (1058, .iaload, 1), (1059, .i2l, 1), (1060, .bipush 32, 2), (1062, .lshl, 1), (1063, .aload_n 0, 1), (1064, .iload 4, 2), (1066, .iconst 2, 1), (1067, .iadd, 1), (1068, .iaload, 1), (1069, .i2l, 1), (1070, .ldc2_w 137, 3), (1073, .land, 1), (1074, .lor, 1), (1075, .aload_n 0, 1), (1076, .iload 4, 2), (1078, .iconst 3, 1), (1079, .iadd, 1), (1080, .iaload, 1), (1081, .aload_n 0, 1), (1082, .iload 4, 2), (1084, .iconst 4, 1), (1085, .iadd, 1), (1086, .iaload, 1), (1087, .invokevirtual 142, 3), (1090, .istore 6, 2), (1092, .aload_n 2, 1), (1093, .invokevirtual 89, 3), (1096, .iload 5, 2), (1098, .if_icmp .eq 5, 3), (1101, .iconst 0, 1), (1102, .ireturn, 1), (1103, .iload 5, 2), (1105, .ifCond .ne 15, 3), (1108, .aload_n 3, 1), (1109, .iconst 0, 1), (1110, .laload, 1), (1111, .iload 6, 2), (1113, .i2l, 1), (1114, .lcmp, 1), (1115, .ifCond .eq 5, 3), (1118, .iconst 0, 1), (1119, .ireturn, 1), (1120, .goto 183, 3), (1123, .aload_n 1, 1), (1124, .aload_n 0, 1), (1125, .iload 4, 2), (1127, .iconst 1, 1), (1128, .iadd, 1), (1129, .iaload, 1), (1130, .aload_n 3, 1), (1131, .invokestatic 143, 3), (1134, .istore 5, 2), (1136, .aload_n 2, 1)]
def jK118_7 : List (Nat × Instr × Nat) := [(1137, .aload_n 0, 1), (1138, .iload 4, 2), (1140, .iconst 1, 1), (1141, .iadd, 1), (1142, .iaload, 1), (1143, .invokevirtual 145, 3), (1146, .istore 6, 2), (1148, .aload_n 2, 1), (1149, .invokevirtual 89, 3), (1152, .iload 5, 2), (1154, .if_icmp .eq 5, 3), (1157, .iconst 0, 1), (1158, .ireturn, 1), (1159, .iload 5, 2), (1161, .ifCond .ne 15, 3), (1164, .aload_n 3, 1), (1165, .iconst 0, 1), (1166, .laload, 1), (1167, .iload 6, 2), (1169, .i2l, 1), (1170, .lcmp, 1), (1171, .ifCond .eq 5, 3), (1174, .iconst 0, 1), (1175, .ireturn, 1), (1176, .goto 127, 3), (1179, .aload_n 1, 1), (1180, .aload_n 0, 1), (1181, .iload 4, 2), (1183, .iconst 1, 1), (1184, .iadd, 1), (1185, .iaload, 1), (1186, .aload_n 0, 1), (1187, .iload 4, 2), (1189, .iconst 2, 1), (1190, .iadd, 1), (1191, .iaload, 1), (1192, .aload_n 3, 1), (1193, .invokestatic 146, 3), (1196, .istore 5, 2), (1198, .aload_n 2, 1), (1199, .aload_n 0, 1), (1200, .iload 4, 2), (1202, .iconst 1, 1), (1203, .iadd, 1), (1204, .iaload, 1), (1205, .aload_n 0, 1), (1206, .iload 4, 2), (1208, .iconst 2, 1), (1209, .iadd, 1), (1210, .iaload, 1), (1211, .invokevirtual 148, 3), (1214, .istore 6, 2), (1216, .aload_n 2, 1), (1217, .invokevirtual 89, 3), (1220, .iload 5, 2), (1222, .if_icmp .eq 5, 3), (1225, .iconst 0, 1), (1226, .ireturn, 1), (1227, .iload 5, 2), (1229, .ifCond .ne 15, 3), (1232, .aload_n 3, 1), (1233, .iconst 0, 1), (1234, .laload, 1), (1235, .iload 6, 2), (1237, .i2l, 1), (1238, .lcmp, 1), (1239, .ifCond .eq 5, 3), (1242, .iconst 0, 1), (1243, .ireturn, 1), (1244, .goto 59, 3), (1247, .aload_n 1, 1), (1248, .aload_n 0, 1), (1249, .iload 4, 2), (1251, .iconst 1, 1), (1252, .iadd, 1), (1253, .iaload, 1), (1254, .aload_n 3, 1), (1255, .invokestatic 149, 3), (1258, .istore 5, 2), (1260, .aload_n 2, 1), (1261, .aload_n 0, 1), (1262, .iload 4, 2), (1264, .iconst 1, 1), (1265, .iadd, 1), (1266, .iaload, 1), (1267, .invokevirtual 151, 3), (1270, .istore 6, 2), (1272, .aload_n 2, 1), (1273, .invokevirtual 89, 3), (1276, .iload 5, 2), (1278, .if_icmp .eq 5, 3), (1281, .iconst 0, 1), (1282, .ireturn, 1), (1283, .iload 5, 2), (1285, .ifCond .ne 15, 3), (1288, .aload_n 3, 1), (1289, .iconst 0, 1), (1290, .laload, 1), (1291, .iload 6, 2), (1293, .i2l, 1)]
def jK118_8 : List (Nat × Instr × Nat) := [(1294, .lcmp, 1), (1295, .ifCond .eq 5, 3), (1298, .iconst 0, 1), (1299, .ireturn, 1), (1300, .goto 3, 3), (1303, .iinc 4 5, 3), (1306, .goto (-1283), 3), (1309, .iconst 1, 1), (1310, .ireturn, 1)]
def jK118 : List (Nat × Instr × Nat) := jK118_0 ++ jK118_1 ++ jK118_2 ++ jK118_3 ++ jK118_4 ++ jK118_5 ++ jK118_6 ++ jK118_7 ++ jK118_8
def jKs : List (List (Nat × Instr × Nat)) := [jK0, jK1, jK2, jK3, jK4, jK5, jK6, jK7, jK8, jK9, jK10, jK11, jK12, jK13, jK14, jK15, jK16, jK17, jK18, jK19, jK20, jK21, jK22, jK23, jK24, jK25, jK26, jK27, jK28, jK29, jK30, jK31, jK32, jK33, jK34, jK35, jK36, jK37, jK38, jK39, jK40, jK41, jK42, jK43, jK44, jK45, jK46, jK47, jK48, jK49, jK50, jK51, jK52, jK53, jK54, jK55, jK56, jK57, jK58, jK59, jK60, jK61, jK62, jK63, jK64, jK65, jK66, jK67, jK68, jK69, jK70, jK71, jK72, jK73, jK74, jK75, jK76, jK77, jK78, jK79, jK80, jK81, jK82, jK83, jK84, jK85, jK86, jK87, jK88, jK89, jK90, jK91, jK92, jK93, jK94, jK95, jK96, jK97, jK98, jK99, jK100, jK101, jK102, jK103, jK104, jK105, jK106, jK107, jK108, jK109, jK110, jK111, jK112, jK113, jK114, jK115, jK116, jK117, jK118]
end
section
theorem jD0 : ∀ q ∈ jK0, decode prog_16_method_103_code q.1 = .ok q.2 := by decide +kernel
theorem jD1 : ∀ q ∈ jK1, decode prog_11_method_65_code q.1 = .ok q.2 := by decide +kernel
theorem jD2 : ∀ q ∈ jK2, decode prog_11_method_69_code q.1 = .ok q.2 := by decide +kernel
theorem jD3 : ∀ q ∈ jK3, decode prog_2_method_1_code q.1 = .ok q.2 := by decide +kernel
theorem jD4 : ∀ q ∈ jK4, decode prog_2_method_2_code q.1 = .ok q.2 := by decide +kernel
theorem jD5 : ∀ q ∈ jK5, decode prog_2_method_3_code q.1 = .ok q.2 := by decide +kernel
theorem jD6 : ∀ q ∈ jK6, decode prog_2_method_4_code q.1 = .ok q.2 := by decide +kernel
theorem jD7 : ∀ q ∈ jK7, decode prog_2_method_5_code q.1 = .ok q.2 := by decide +kernel
theorem jD8 : ∀ q ∈ jK8, decode prog_2_method_6_code q.1 = .ok q.2 := by decide +kernel
theorem jD9 : ∀ q ∈ jK9, decode prog_2_method_7_code q.1 = .ok q.2 := by decide +kernel
theorem jD10 : ∀ q ∈ jK10, decode prog_3_method_1_code q.1 = .ok q.2 := by decide +kernel
theorem jD11 : ∀ q ∈ jK11, decode prog_3_method_2_code q.1 = .ok q.2 := by decide +kernel
theorem jD12 : ∀ q ∈ jK12, decode prog_3_method_3_code q.1 = .ok q.2 := by decide +kernel
theorem jD13 : ∀ q ∈ jK13, decode prog_3_method_4_code q.1 = .ok q.2 := by decide +kernel
theorem jD14 : ∀ q ∈ jK14, decode prog_3_method_5_code q.1 = .ok q.2 := by decide +kernel
theorem jD15 : ∀ q ∈ jK15, decode prog_4_method_1_code q.1 = .ok q.2 := by decide +kernel
theorem jD16 : ∀ q ∈ jK16, decode prog_4_method_2_code q.1 = .ok q.2 := by decide +kernel
theorem jD17 : ∀ q ∈ jK17, decode prog_4_method_3_code q.1 = .ok q.2 := by decide +kernel
theorem jD18 : ∀ q ∈ jK18, decode prog_4_method_4_code q.1 = .ok q.2 := by decide +kernel
theorem jD19 : ∀ q ∈ jK19, decode prog_4_method_5_code q.1 = .ok q.2 := by decide +kernel
theorem jD20 : ∀ q ∈ jK20, decode prog_4_method_6_code q.1 = .ok q.2 := by decide +kernel
theorem jD21 : ∀ q ∈ jK21, decode prog_4_method_7_code q.1 = .ok q.2 := by decide +kernel
theorem jD22 : ∀ q ∈ jK22, decode prog_4_method_8_code q.1 = .ok q.2 := by decide +kernel
theorem jD23 : ∀ q ∈ jK23, decode prog_4_method_9_code q.1 = .ok q.2 := by decide +kernel
theorem jD24 : ∀ q ∈ jK24, decode prog_4_method_10_code q.1 = .ok q.2 := by decide +kernel
theorem jD25 : ∀ q ∈ jK25, decode prog_1_method_1_code q.1 = .ok q.2 := by decide +kernel
theorem jD26 : ∀ q ∈ jK26, decode prog_1_method_2_code q.1 = .ok q.2 := by decide +kernel
theorem jD27 : ∀ q ∈ jK27, decode prog_1_method_3_code q.1 = .ok q.2 := by decide +kernel
theorem jD28 : ∀ q ∈ jK28, decode prog_1_method_4_code q.1 = .ok q.2 := by decide +kernel
theorem jD29 : ∀ q ∈ jK29, decode prog_1_method_5_code q.1 = .ok q.2 := by decide +kernel
theorem jD30 : ∀ q ∈ jK30, decode prog_1_method_6_code q.1 = .ok q.2 := by decide +kernel
theorem jD31 : ∀ q ∈ jK31, decode prog_1_method_7_code q.1 = .ok q.2 := by decide +kernel
theorem jD32 : ∀ q ∈ jK32, decode prog_1_method_8_code q.1 = .ok q.2 := by decide +kernel
theorem jD33 : ∀ q ∈ jK33, decode prog_1_method_9_code q.1 = .ok q.2 := by decide +kernel
theorem jD34 : ∀ q ∈ jK34, decode prog_1_method_10_code q.1 = .ok q.2 := by decide +kernel
theorem jD35 : ∀ q ∈ jK35, decode prog_1_method_11_code q.1 = .ok q.2 := by decide +kernel
theorem jD36 : ∀ q ∈ jK36, decode prog_1_method_12_code q.1 = .ok q.2 := by decide +kernel
theorem jD37 : ∀ q ∈ jK37, decode prog_1_method_13_code q.1 = .ok q.2 := by decide +kernel
theorem jD38 : ∀ q ∈ jK38, decode prog_1_method_14_code q.1 = .ok q.2 := by decide +kernel
theorem jD39 : ∀ q ∈ jK39, decode prog_1_method_15_code q.1 = .ok q.2 := by decide +kernel
theorem jD40 : ∀ q ∈ jK40, decode prog_1_method_16_code q.1 = .ok q.2 := by decide +kernel
theorem jD41 : ∀ q ∈ jK41, decode prog_1_method_17_code q.1 = .ok q.2 := by decide +kernel
theorem jD42 : ∀ q ∈ jK42, decode prog_1_method_18_code q.1 = .ok q.2 := by decide +kernel
theorem jD43 : ∀ q ∈ jK43, decode prog_1_method_19_code q.1 = .ok q.2 := by decide +kernel
theorem jD44 : ∀ q ∈ jK44, decode prog_1_method_20_code q.1 = .ok q.2 := by decide +kernel
theorem jD45 : ∀ q ∈ jK45, decode prog_1_method_21_code q.1 = .ok q.2 := by decide +kernel
theorem jD46 : ∀ q ∈ jK46, decode prog_1_method_22_code q.1 = .ok q.2 := by decide +kernel
theorem jD47 : ∀ q ∈ jK47, decode prog_1_method_23_code q.1 = .ok q.2 := by decide +kernel
theorem jD48 : ∀ q ∈ jK48, decode prog_1_method_24_code q.1 = .ok q.2 := by decide +kernel
theorem jD49 : ∀ q ∈ jK49, decode prog_1_method_25_code q.1 = .ok q.2 := by decide +kernel
theorem jD50 : ∀ q ∈ jK50, decode prog_1_method_26_code q.1 = .ok q.2 := by decide +kernel
theorem jD51 : ∀ q ∈ jK51, decode prog_1_method_27_code q.1 = .ok q.2 := by decide +kernel
theorem jD52 : ∀ q ∈ jK52, decode prog_1_method_28_code q.1 = .ok q.2 := by decide +kernel
theorem jD53 : ∀ q ∈ jK53, decode prog_1_method_29_code q.1 = .ok q.2 := by decide +kernel
theorem jD54 : ∀ q ∈ jK54, decode prog_1_method_30_code q.1 = .ok q.2 := by decide +kernel
theorem jD55 : ∀ q ∈ jK55, decode prog_1_method_31_code q.1 = .ok q.2 := by decide +kernel
theorem jD56 : ∀ q ∈ jK56, decode prog_1_method_32_code q.1 = .ok q.2 := by decide +kernel
theorem jD57 : ∀ q ∈ jK57, decode prog_1_method_33_code q.1 = .ok q.2 := by decide +kernel
theorem jD58 : ∀ q ∈ jK58, decode prog_1_method_34_code q.1 = .ok q.2 := by decide +kernel
theorem jD59 : ∀ q ∈ jK59, decode prog_1_method_35_code q.1 = .ok q.2 := by decide +kernel
theorem jD60 : ∀ q ∈ jK60, decode prog_1_method_36_code q.1 = .ok q.2 := by decide +kernel
theorem jD61 : ∀ q ∈ jK61, decode prog_6_method_1_code q.1 = .ok q.2 := by decide +kernel
theorem jD62 : ∀ q ∈ jK62, decode prog_6_method_2_code q.1 = .ok q.2 := by decide +kernel
theorem jD63 : ∀ q ∈ jK63, decode prog_6_method_3_code q.1 = .ok q.2 := by decide +kernel
theorem jD64 : ∀ q ∈ jK64, decode prog_6_method_4_code q.1 = .ok q.2 := by decide +kernel
theorem jD65 : ∀ q ∈ jK65, decode prog_6_method_5_code q.1 = .ok q.2 := by decide +kernel
theorem jD66 : ∀ q ∈ jK66, decode prog_6_method_6_code q.1 = .ok q.2 := by decide +kernel
theorem jD67 : ∀ q ∈ jK67, decode prog_6_method_7_code q.1 = .ok q.2 := by decide +kernel
theorem jD68 : ∀ q ∈ jK68, decode prog_6_method_8_code q.1 = .ok q.2 := by decide +kernel
theorem jD69 : ∀ q ∈ jK69, decode prog_6_method_9_code q.1 = .ok q.2 := by decide +kernel
theorem jD70 : ∀ q ∈ jK70, decode prog_6_method_10_code q.1 = .ok q.2 := by decide +kernel
theorem jD71 : ∀ q ∈ jK71, decode prog_6_method_11_code q.1 = .ok q.2 := by decide +kernel
theorem jD72 : ∀ q ∈ jK72, decode prog_6_method_12_code q.1 = .ok q.2 := by decide +kernel
theorem jD73 : ∀ q ∈ jK73, decode prog_6_method_13_code q.1 = .ok q.2 := by decide +kernel
theorem jD74 : ∀ q ∈ jK74, decode prog_6_method_14_code q.1 = .ok q.2 := by decide +kernel
theorem jD75 : ∀ q ∈ jK75, decode prog_6_method_15_code q.1 = .ok q.2 := by decide +kernel
theorem jD76 : ∀ q ∈ jK76, decode prog_6_method_16_code q.1 = .ok q.2 := by decide +kernel
theorem jD77 : ∀ q ∈ jK77, decode prog_6_method_17_code q.1 = .ok q.2 := by decide +kernel
theorem jD78 : ∀ q ∈ jK78, decode prog_6_method_18_code q.1 = .ok q.2 := by decide +kernel
theorem jD79 : ∀ q ∈ jK79, decode prog_6_method_19_code q.1 = .ok q.2 := by decide +kernel
theorem jD80 : ∀ q ∈ jK80, decode prog_6_method_20_code q.1 = .ok q.2 := by decide +kernel
theorem jD81 : ∀ q ∈ jK81, decode prog_6_method_21_code q.1 = .ok q.2 := by decide +kernel
theorem jD82 : ∀ q ∈ jK82, decode prog_6_method_22_code q.1 = .ok q.2 := by decide +kernel
theorem jD83 : ∀ q ∈ jK83, decode prog_6_method_23_code q.1 = .ok q.2 := by decide +kernel
theorem jD84 : ∀ q ∈ jK84, decode prog_6_method_24_code q.1 = .ok q.2 := by decide +kernel
theorem jD85 : ∀ q ∈ jK85, decode prog_6_method_25_code q.1 = .ok q.2 := by decide +kernel
theorem jD86 : ∀ q ∈ jK86, decode prog_6_method_26_code q.1 = .ok q.2 := by decide +kernel
theorem jD87 : ∀ q ∈ jK87, decode prog_6_method_27_code q.1 = .ok q.2 := by decide +kernel
theorem jD88 : ∀ q ∈ jK88, decode prog_6_method_28_code q.1 = .ok q.2 := by decide +kernel
theorem jD89 : ∀ q ∈ jK89, decode prog_6_method_29_code q.1 = .ok q.2 := by decide +kernel
theorem jD90 : ∀ q ∈ jK90, decode prog_6_method_30_code q.1 = .ok q.2 := by decide +kernel
theorem jD91 : ∀ q ∈ jK91, decode prog_6_method_31_code q.1 = .ok q.2 := by decide +kernel
theorem jD92 : ∀ q ∈ jK92, decode prog_6_method_32_code q.1 = .ok q.2 := by decide +kernel
theorem jD93 : ∀ q ∈ jK93, decode prog_6_method_33_code q.1 = .ok q.2 := by decide +kernel
theorem jD94 : ∀ q ∈ jK94, decode prog_6_method_34_code q.1 = .ok q.2 := by decide +kernel
theorem jD95 : ∀ q ∈ jK95, decode prog_6_method_35_code q.1 = .ok q.2 := by decide +kernel
theorem jD96 : ∀ q ∈ jK96, decode prog_6_method_36_code q.1 = .ok q.2 := by decide +kernel
theorem jD97 : ∀ q ∈ jK97, decode prog_6_method_37_code q.1 = .ok q.2 := by decide +kernel
theorem jD98 : ∀ q ∈ jK98, decode prog_6_method_38_code q.1 = .ok q.2 := by decide +kernel
theorem jD99 : ∀ q ∈ jK99, decode prog_6_method_39_code q.1 = .ok q.2 := by decide +kernel
theorem jD100 : ∀ q ∈ jK100, decode method_3_code q.1 = .ok q.2 := by decide +kernel
theorem jD101 : ∀ q ∈ jK101, decode method_4_code q.1 = .ok q.2 := by decide +kernel
theorem jD102 : ∀ q ∈ jK102, decode method_5_code q.1 = .ok q.2 := by decide +kernel
theorem jD103 : ∀ q ∈ jK103, decode method_6_code q.1 = .ok q.2 := by decide +kernel
theorem jD104 : ∀ q ∈ jK104, decode method_7_code q.1 = .ok q.2 := by decide +kernel
theorem jD105 : ∀ q ∈ jK105, decode method_8_code q.1 = .ok q.2 := by decide +kernel
theorem jD106 : ∀ q ∈ jK106, decode method_9_code q.1 = .ok q.2 := by decide +kernel
theorem jD107 : ∀ q ∈ jK107, decode method_10_code q.1 = .ok q.2 := by decide +kernel
theorem jD108 : ∀ q ∈ jK108, decode method_11_code q.1 = .ok q.2 := by decide +kernel
theorem jD109 : ∀ q ∈ jK109, decode method_12_code q.1 = .ok q.2 := by decide +kernel
theorem jD110 : ∀ q ∈ jK110, decode method_13_code q.1 = .ok q.2 := by decide +kernel
theorem jD111 : ∀ q ∈ jK111, decode method_14_code q.1 = .ok q.2 := by decide +kernel
theorem jD112 : ∀ q ∈ jK112, decode method_15_code q.1 = .ok q.2 := by decide +kernel
theorem jD113 : ∀ q ∈ jK113, decode method_16_code q.1 = .ok q.2 := by decide +kernel
theorem jD114 : ∀ q ∈ jK114, decode method_17_code q.1 = .ok q.2 := by decide +kernel
theorem jD115 : ∀ q ∈ jK115, decode method_18_code q.1 = .ok q.2 := by decide +kernel
theorem jD116 : ∀ q ∈ jK116, decode method_19_code q.1 = .ok q.2 := by decide +kernel
theorem jD117 : ∀ q ∈ jK117, decode method_20_code q.1 = .ok q.2 := by decide +kernel
theorem jD118_0 : ∀ q ∈ jK118_0, decode code q.1 = .ok q.2 := by decide +kernel
theorem jD118_1 : ∀ q ∈ jK118_1, decode code q.1 = .ok q.2 := by decide +kernel
theorem jD118_2 : ∀ q ∈ jK118_2, decode code q.1 = .ok q.2 := by decide +kernel
theorem jD118_3 : ∀ q ∈ jK118_3, decode code q.1 = .ok q.2 := by decide +kernel
theorem jD118_4 : ∀ q ∈ jK118_4, decode code q.1 = .ok q.2 := by decide +kernel
theorem jD118_5 : ∀ q ∈ jK118_5, decode code q.1 = .ok q.2 := by decide +kernel
theorem jD118_6 : ∀ q ∈ jK118_6, decode code q.1 = .ok q.2 := by decide +kernel
theorem jD118_7 : ∀ q ∈ jK118_7, decode code q.1 = .ok q.2 := by decide +kernel
theorem jD118_8 : ∀ q ∈ jK118_8, decode code q.1 = .ok q.2 := by decide +kernel
theorem jD118 : ∀ q ∈ jK118, decode code q.1 = .ok q.2 := fun q h => (List.mem_append.mp h).elim (fun h => (List.mem_append.mp h).elim (fun h => (List.mem_append.mp h).elim (fun h => (List.mem_append.mp h).elim (fun h => (List.mem_append.mp h).elim (fun h => (List.mem_append.mp h).elim (fun h => (List.mem_append.mp h).elim (fun h => (List.mem_append.mp h).elim (fun h => jD118_0 q h) (jD118_1 q)) (jD118_2 q)) (jD118_3 q)) (jD118_4 q)) (jD118_5 q)) (jD118_6 q)) (jD118_7 q)) (jD118_8 q)
end
section
def jn (i : Nat) : MethodName := jN.getD i ⟨"", "", ""⟩
def jb (i : Nat) : ByteArray := jB.getD i ⟨#[]⟩
def jl (i : Nat) : Nat := jL.getD i 0
def jr (i : Nat) : Option FieldType := jRt.getD i none
def jh (i : Nat) : List (Nat × Nat × Nat × Nat) := jHs.getD i []
def jo (i : Nat) : Nat := jCs.getD i 99
def jp (i : Nat) : Nat := jPs.getD i 0
def jm (i : Nat) : Room := jMr.getD i { frames := 0, cells := 0, slots := 0, locals := 0 }
def jrc (i : Nat) : Nat := (jRr.getD i (0, 0)).1
def jrs (i : Nat) : Nat := (jRr.getD i (0, 0)).2
def jcode (i pc : Nat) : Option (Instr × Nat) := ((jKs.getD i []).find? (fun q => q.1 == pc)).map (fun q => q.2)
def jfld (i x : Nat) : Option (Nat × Nat) := (jFL.find? (fun q => q.1 == (jo i, x))).map (fun q => q.2)
def jcal (i x : Nat) : Option (Nat × Nat) := (jCL.find? (fun q => q.1 == (jo i, x))).map (fun q => q.2)
def jnew (i x : Nat) : Option Nat := (jNL.find? (fun q => q.1 == (jo i, x))).map (fun q => q.2)
def jobj (i x : Nat) : Bool := jIL.contains (jo i, x)
def jthr (i pc : Nat) : Option (Nat × Nat × Nat × String × String) := (jXL.find? (fun q => q.1 == (i, pc))).map (fun q => q.2)
/-- the handler of a thrown class, by its exact name -/
def jhan (i pc : Nat) (X : String) : Option Nat := ((jHC.getD i []).find? (fun q => q.1 ≤ pc && pc < q.2.1 && q.2.2.2 == X)).map (fun q => q.2.2.1)
/-- the word of a method's code -/
def jcw (i : Nat) : Cond := if (jh i).isEmpty then .code (jn i) (jb i) (jl i) (jr i) else .codeWith (jn i) (jb i) (jl i) (jr i) (jh i)
/-- all good words -/
def jGW : List Cond := lw_tbl.filter goodWord
theorem jGW_of {w : Cond} (h1 : w ∈ lw_tbl) (h2 : goodWord w = true) : w ∈ jGW := List.mem_filter.mpr ⟨h1, h2⟩
theorem jGW_good : GoodIn lw_tbl jGW := fun w h => ⟨(List.mem_filter.mp h).1, good_of_word (List.mem_filter.mp h).2⟩
theorem jGW_self : GoodIn jGW jGW := fun w h => ⟨h, good_of_word (List.mem_filter.mp h).2⟩
theorem jfind {α β : Type} {L : List (α × β)} {f : α → Bool} {r : β} (h : (L.find? (fun q => f q.1)).map (fun q => q.2) = some r) : ∃ a, (a, r) ∈ L ∧ f a = true := by
  cases hq : L.find? (fun q => f q.1) with
  | none => rw [hq] at h; cases h
  | some q =>
    rw [hq] at h
    obtain ⟨a, r'⟩ := q
    cases h
    have h2 := List.find?_some hq
    exact ⟨a, List.mem_of_find?_eq_some hq, h2⟩

theorem jdec_all : ∀ i, i < 119 → ∀ q ∈ jKs.getD i [], decode (jb i) q.1 = .ok q.2 := by
  intro i hi
  match i, hi with
  | 0, _ => exact jD0
  | 1, _ => exact jD1
  | 2, _ => exact jD2
  | 3, _ => exact jD3
  | 4, _ => exact jD4
  | 5, _ => exact jD5
  | 6, _ => exact jD6
  | 7, _ => exact jD7
  | 8, _ => exact jD8
  | 9, _ => exact jD9
  | 10, _ => exact jD10
  | 11, _ => exact jD11
  | 12, _ => exact jD12
  | 13, _ => exact jD13
  | 14, _ => exact jD14
  | 15, _ => exact jD15
  | 16, _ => exact jD16
  | 17, _ => exact jD17
  | 18, _ => exact jD18
  | 19, _ => exact jD19
  | 20, _ => exact jD20
  | 21, _ => exact jD21
  | 22, _ => exact jD22
  | 23, _ => exact jD23
  | 24, _ => exact jD24
  | 25, _ => exact jD25
  | 26, _ => exact jD26
  | 27, _ => exact jD27
  | 28, _ => exact jD28
  | 29, _ => exact jD29
  | 30, _ => exact jD30
  | 31, _ => exact jD31
  | 32, _ => exact jD32
  | 33, _ => exact jD33
  | 34, _ => exact jD34
  | 35, _ => exact jD35
  | 36, _ => exact jD36
  | 37, _ => exact jD37
  | 38, _ => exact jD38
  | 39, _ => exact jD39
  | 40, _ => exact jD40
  | 41, _ => exact jD41
  | 42, _ => exact jD42
  | 43, _ => exact jD43
  | 44, _ => exact jD44
  | 45, _ => exact jD45
  | 46, _ => exact jD46
  | 47, _ => exact jD47
  | 48, _ => exact jD48
  | 49, _ => exact jD49
  | 50, _ => exact jD50
  | 51, _ => exact jD51
  | 52, _ => exact jD52
  | 53, _ => exact jD53
  | 54, _ => exact jD54
  | 55, _ => exact jD55
  | 56, _ => exact jD56
  | 57, _ => exact jD57
  | 58, _ => exact jD58
  | 59, _ => exact jD59
  | 60, _ => exact jD60
  | 61, _ => exact jD61
  | 62, _ => exact jD62
  | 63, _ => exact jD63
  | 64, _ => exact jD64
  | 65, _ => exact jD65
  | 66, _ => exact jD66
  | 67, _ => exact jD67
  | 68, _ => exact jD68
  | 69, _ => exact jD69
  | 70, _ => exact jD70
  | 71, _ => exact jD71
  | 72, _ => exact jD72
  | 73, _ => exact jD73
  | 74, _ => exact jD74
  | 75, _ => exact jD75
  | 76, _ => exact jD76
  | 77, _ => exact jD77
  | 78, _ => exact jD78
  | 79, _ => exact jD79
  | 80, _ => exact jD80
  | 81, _ => exact jD81
  | 82, _ => exact jD82
  | 83, _ => exact jD83
  | 84, _ => exact jD84
  | 85, _ => exact jD85
  | 86, _ => exact jD86
  | 87, _ => exact jD87
  | 88, _ => exact jD88
  | 89, _ => exact jD89
  | 90, _ => exact jD90
  | 91, _ => exact jD91
  | 92, _ => exact jD92
  | 93, _ => exact jD93
  | 94, _ => exact jD94
  | 95, _ => exact jD95
  | 96, _ => exact jD96
  | 97, _ => exact jD97
  | 98, _ => exact jD98
  | 99, _ => exact jD99
  | 100, _ => exact jD100
  | 101, _ => exact jD101
  | 102, _ => exact jD102
  | 103, _ => exact jD103
  | 104, _ => exact jD104
  | 105, _ => exact jD105
  | 106, _ => exact jD106
  | 107, _ => exact jD107
  | 108, _ => exact jD108
  | 109, _ => exact jD109
  | 110, _ => exact jD110
  | 111, _ => exact jD111
  | 112, _ => exact jD112
  | 113, _ => exact jD113
  | 114, _ => exact jD114
  | 115, _ => exact jD115
  | 116, _ => exact jD116
  | 117, _ => exact jD117
  | 118, _ => exact jD118
  | k + 119, h => exact absurd h (by omega)
theorem jdec {i pc : Nat} {r : Instr × Nat} (h : jcode i pc = some r) : decode (jb i) pc = .ok r := by
  obtain ⟨a, h1, h2⟩ := jfind (f := fun a => a == pc) (show ((jKs.getD i []).find? (fun q => q.1 == pc)).map (fun q => q.2) = some r from h)
  have ha : a = pc := by simpa using h2
  subst ha
  by_cases hi : i < 119
  · have h3 : decode (jb i) ((a, r) : Nat × Instr × Nat).1 = .ok ((a, r) : Nat × Instr × Nat).2 := jdec_all i hi (a, r) h1
    exact h3
  · have : jKs.getD i [] = [] := by
      have hl : jKs.length = 119 := by decide +kernel
      rw [List.getD_eq_getElem?_getD, List.getElem?_eq_none (by omega)]; rfl
    rw [this] at h1; cases h1
theorem jlt {i pc : Nat} {r : Instr × Nat} (h : jcode i pc = some r) : i < 119 := by
  obtain ⟨a, h1, h2⟩ := jfind (f := fun a => a == pc) (show ((jKs.getD i []).find? (fun q => q.1 == pc)).map (fun q => q.2) = some r from h)
  by_cases hi : i < 119
  · exact hi
  · have : jKs.getD i [] = [] := by
      have hl : jKs.length = 119 := by decide +kernel
      rw [List.getD_eq_getElem?_getD, List.getElem?_eq_none (by omega)]; rfl
    rw [this] at h1; cases h1
end
section
theorem jpl {ws : List Cond} {ps : List Nat} (h : ps.map (fun i => lw_tbl[i]?) = ws.map some) (hg : ws.all goodWord = true) : ∀ w ∈ ws, w ∈ jGW := by
  intro w hw
  obtain ⟨k, hk⟩ := List.getElem?_of_mem hw
  have h1 : (ws.map some)[k]? = some (some w) := by rw [List.getElem?_map, hk]; rfl
  rw [← h, List.getElem?_map] at h1
  cases hp : ps[k]? with
  | none => rw [hp] at h1; cases h1
  | some i =>
    rw [hp] at h1
    exact jGW_of (List.mem_of_getElem? (Option.some.inj h1)) (List.all_eq_true.mp hg w hw)
/-- the layouts of the classes -/
theorem jlay0 : ∀ w ∈ u_ws "TrainingRows$Courses" jT0 10, w ∈ jGW := jpl (ps := [87, 89, 91, 93, 95, 97, 99, 101, 103, 105]) (by decide +kernel) (by decide +kernel)
theorem jlay1 : ∀ w ∈ u_ws "TrainingRows$Records" jT1 9, w ∈ jGW := jpl (ps := [135, 137, 139, 141, 143, 145, 147, 149, 151]) (by decide +kernel) (by decide +kernel)
theorem jlay2 : ∀ w ∈ u_ws "TrainingRows$Seating" jT2 6, w ∈ jGW := jpl (ps := [169, 171, 173, 175, 177, 179]) (by decide +kernel) (by decide +kernel)
theorem jlay3 : ∀ w ∈ u_ws "TrainingRows" jT3 5, w ∈ jGW := jpl (ps := [187, 189, 191, 193, 195]) (by decide +kernel) (by decide +kernel)
theorem jlay4 : ∀ w ∈ u_ws "TrainingRowsModel" jT4 25, w ∈ jGW := jpl (ps := [638, 640, 642, 644, 646, 648, 650, 652, 654, 656, 658, 660, 662, 664, 666, 668, 670, 672, 674, 676, 678, 680, 682, 684, 686]) (by decide +kernel) (by decide +kernel)
theorem jlay : ∀ q ∈ jCl, ∀ w ∈ u_ws q.1 q.2.1 q.2.2, w ∈ jGW := by
  intro q hq
  simp only [jCl, List.mem_cons, List.not_mem_nil, or_false] at hq
  rcases hq with rfl | rfl | rfl | rfl | rfl
  · exact jlay0
  · exact jlay1
  · exact jlay2
  · exact jlay3
  · exact jlay4
def jFw (q : (Nat × Nat) × Nat × Nat) : Cond := match jCl[q.2.1]? with
  | some r => .fieldLink (jcn q.1.1) q.1.2 (r.2.1 q.2.2).1 (r.2.1 q.2.2).2.1 (r.2.1 q.2.2).2.2.1
  | none => .tt
theorem jF_n : ∀ q ∈ jFL, q.2.2 < ((jCl[q.2.1]?).getD ("", jT0, 0)).2.2 := by decide +kernel
theorem jF_all : ∀ w ∈ jFL.map jFw, w ∈ jGW := jpl (ps := [68, 70, 72, 74, 76, 78, 79, 81, 83, 85, 119, 121, 122, 124, 126, 128, 130, 131, 133, 160, 162, 164, 165, 166, 167, 182, 183, 184, 185, 186, 77, 75, 71, 84, 80, 73, 129, 161, 168, 163, 86, 132, 134, 125, 120, 69, 123, 127, 82, 615, 617, 618, 619, 620, 621, 622, 624, 625, 626, 627, 628, 629, 630, 632, 633, 634, 635, 636, 637, 613, 616, 614, 623, 631]) (by decide +kernel) (by decide +kernel)
def jCws (q : (Nat × Nat) × Nat × Nat) : List Cond := match q.2.1 with
  | 0 => [.methodLink (jcn q.1.1) q.1.2 (jn q.2.2), .instanceMethod (jn q.2.2), .selects (jn q.2.2).cls (jn q.2.2) (jn q.2.2), .initialized (jn q.2.2).cls, jcw q.2.2]
  | 2 => [.methodLink (jcn q.1.1) q.1.2 (jn q.2.2), .instanceMethod (jn q.2.2), .initialized (jn q.2.2).cls, jcw q.2.2]
  | 4 => [.static (jn q.2.2), .initialized (jn q.2.2).cls, jcw q.2.2]
  | 5 => [.instanceMethod (jn q.2.2), .initialized (jn q.2.2).cls, jcw q.2.2]
  | _ => [.methodLink (jcn q.1.1) q.1.2 (jn q.2.2), .static (jn q.2.2), .initialized (jn q.2.2).cls, jcw q.2.2]
theorem jC_0 : ∀ w ∈ ((jCL.drop 0).take 30).flatMap jCws, w ∈ jGW := jpl (ps := [337, 40, 338, 379, 117, 43, 118, 116, 117, 43, 118, 541, 117, 43, 118, 550, 552, 13, 44, 553, 563, 565, 16, 44, 566, 337, 40, 338, 567, 569, 17, 44, 570, 571, 573, 18, 44, 574, 559, 561, 15, 44, 562, 575, 577, 19, 44, 578, 555, 557, 14, 44, 558, 65, 41, 66, 112, 113, 42, 114, 157, 44, 158, 207, 208, 40, 209, 279, 280, 281, 41, 282, 299, 300, 301, 41, 302, 312, 314, 1, 40, 315, 332, 333, 334, 41, 335, 355, 337, 40, 338, 357, 358, 359, 41, 360, 375, 376, 377, 41, 378, 394, 396, 2, 40, 397, 399, 401, 3, 40, 402, 423, 425, 8, 40, 426, 435, 437, 10, 40, 438, 444, 446, 11, 40, 447, 407, 409, 5, 40, 410, 415, 416, 40, 417]) (by decide +kernel) (by decide +kernel)
theorem jC_1 : ∀ w ∈ ((jCL.drop 30).take 30).flatMap jCws, w ∈ jGW := jpl (ps := [480, 481, 482, 42, 483, 491, 492, 493, 42, 494, 418, 420, 7, 40, 421, 411, 413, 6, 40, 414, 530, 531, 53, 532, 533, 534, 40, 535, 537, 538, 539, 44, 540, 542, 544, 12, 40, 545, 546, 547, 548, 44, 549, 602, 604, 20, 40, 605, 439, 440, 441, 42, 442, 448, 449, 450, 41, 451, 452, 453, 454, 42, 455, 403, 405, 4, 40, 406, 427, 429, 9, 40, 430, 431, 432, 53, 433, 697, 698, 45, 699, 708, 710, 22, 45, 711, 700, 702, 21, 45, 703, 712, 714, 23, 45, 715, 744, 746, 27, 45, 747, 748, 750, 28, 45, 751, 740, 742, 26, 45, 743, 752, 754, 29, 45, 755, 756, 758, 30, 45, 759, 764, 766, 32, 45, 767, 732, 734, 24, 45, 735, 736, 738, 25, 45, 739, 760, 762, 31, 45, 763, 768, 770, 33, 45, 771]) (by decide +kernel) (by decide +kernel)
theorem jC_2 : ∀ w ∈ ((jCL.drop 60).take 30).flatMap jCws, w ∈ jGW := jpl (ps := [816, 818, 36, 45, 819, 820, 822, 37, 45, 823, 824, 826, 38, 45, 827, 812, 814, 35, 45, 815, 808, 810, 34, 45, 811, 203, 204, 205, 40, 206, 308, 309, 310, 40, 311, 364, 365, 366, 40, 367, 371, 372, 373, 40, 374, 383, 384, 385, 40, 386, 390, 391, 392, 40, 393, 459, 460, 461, 40, 462, 467, 468, 469, 40, 470, 476, 477, 478, 40, 479, 487, 488, 489, 40, 490, 498, 499, 500, 40, 501, 505, 506, 507, 40, 508, 512, 513, 514, 40, 515, 519, 520, 521, 40, 522, 526, 527, 528, 40, 529, 582, 583, 584, 40, 585, 590, 591, 592, 40, 593, 598, 599, 600, 40, 601, 56, 57, 40, 58, 609, 610, 45, 611, 198, 199, 39, 200, 693, 694, 695, 45, 696, 689, 690, 691, 45, 692, 303, 304, 39, 305, 704, 705, 706, 45, 707]) (by decide +kernel) (by decide +kernel)
theorem jC_3 : ∀ w ∈ ((jCL.drop 90).take 30).flatMap jCws, w ∈ jGW := jpl (ps := [361, 362, 39, 363, 716, 717, 718, 45, 719, 368, 369, 39, 370, 720, 721, 722, 45, 723, 380, 381, 39, 382, 724, 725, 726, 45, 727, 387, 388, 39, 389, 728, 729, 730, 45, 731, 456, 457, 39, 458, 772, 773, 774, 45, 775, 464, 465, 39, 466, 776, 777, 778, 45, 779, 473, 474, 39, 475, 780, 781, 782, 45, 783, 484, 485, 39, 486, 784, 785, 786, 45, 787, 495, 496, 39, 497, 788, 789, 790, 45, 791, 502, 503, 39, 504, 792, 793, 794, 45, 795, 509, 510, 39, 511, 796, 797, 798, 45, 799, 516, 517, 39, 518, 800, 801, 802, 45, 803, 523, 524, 39, 525, 804, 805, 806, 45, 807, 579, 580, 39, 581, 828, 829, 830, 45, 831, 587, 588, 39, 589, 832, 833, 834, 45, 835]) (by decide +kernel) (by decide +kernel)
theorem jC_4 : ∀ w ∈ ((jCL.drop 120).take 30).flatMap jCws, w ∈ jGW := jpl (ps := [595, 596, 39, 597, 836, 837, 838, 45, 839]) (by decide +kernel) (by decide +kernel)
theorem jC_all : ∀ q ∈ jCL, ∀ w ∈ jCws q, w ∈ jGW := by
  intro q hq w hw
  have hs : jCL = (jCL.drop 0).take 30 ++ (jCL.drop 30).take 30 ++ (jCL.drop 60).take 30 ++ (jCL.drop 90).take 30 ++ (jCL.drop 120).take 30 := by decide +kernel
  rw [hs] at hq
  rcases List.mem_append.mp hq with hq | hq
  rotate_left
  · exact jC_4 w (List.mem_flatMap.mpr ⟨q, hq, hw⟩)
  rcases List.mem_append.mp hq with hq | hq
  rotate_left
  · exact jC_3 w (List.mem_flatMap.mpr ⟨q, hq, hw⟩)
  rcases List.mem_append.mp hq with hq | hq
  rotate_left
  · exact jC_2 w (List.mem_flatMap.mpr ⟨q, hq, hw⟩)
  rcases List.mem_append.mp hq with hq | hq
  rotate_left
  · exact jC_1 w (List.mem_flatMap.mpr ⟨q, hq, hw⟩)
  exact jC_0 w (List.mem_flatMap.mpr ⟨q, hq, hw⟩)
theorem jC_p : ∀ q ∈ jCL, (parseMethodDescriptor (jn q.2.2).desc).map (fun d => d.parameters.length) = some (jp q.2.2) ∧ (jn q.2.2).cls ≠ "java/lang/invoke/MethodHandle" ∧ (jn q.2.2).cls ≠ "java/lang/invoke/VarHandle" ∧ plainFor (jn q.2.2) = true := by decide +kernel
theorem jC_h : ∀ q ∈ jCL, (q.2.1 = 6 ∧ (jh q.2.2).isEmpty = false) ∨ (q.2.1 < 6 ∧ q.2.1 ≠ 3 ∧ (jh q.2.2).isEmpty = true) := by decide +kernel
theorem jC_i : ∀ q ∈ jCL, (q.2.1 = 2 ∨ q.2.1 = 5) → (jn q.2.2).name = "<init>" ∧ jr q.2.2 = none := by decide +kernel
def jNest : List (String × Nat × MethodName × String) := [("TrainingRows", 11, ⟨"TrainingRows$Courses", "<init>", "()V"⟩, "TrainingRows"), ("TrainingRows", 25, ⟨"TrainingRows$Seating", "<init>", "()V"⟩, "TrainingRows"), ("TrainingRows$Courses", 44, ⟨"TrainingRows", "isIn", "(II)Z"⟩, "TrainingRows"), ("TrainingRows$Seating", 45, ⟨"TrainingRows", "isIn", "(II)Z"⟩, "TrainingRows")]
theorem jC_n : ∀ q ∈ jCL, (q.2.1 = 4 ∨ q.2.1 = 5) → (jcn q.1.1, q.1.2, jn q.2.2, "TrainingRows") ∈ jNest := by decide +kernel
end
section
def jgood (w : Cond) : Bool := decide (w ∈ lw_tbl) && goodWord w
theorem jgood_spec {w : Cond} (h : jgood w = true) : w ∈ jGW := by
  simp only [jgood, Bool.and_eq_true, decide_eq_true_eq] at h
  exact jGW_of h.1 h.2
def jEx : List String := ["java/lang/RuntimeException", "java/lang/Exception"]
def jDecl : List MethodName := [⟨"java/lang/RuntimeException", "<init>", "(Ljava/lang/String;)V"⟩, ⟨"java/lang/Exception", "<init>", "(Ljava/lang/String;)V"⟩, ⟨"java/lang/Throwable", "<init>", "(Ljava/lang/String;)V"⟩]
def jCast : List String := ["java/lang/UnsupportedOperationException", "java/lang/IllegalStateException", "java/lang/IllegalArgumentException", "java/lang/IndexOutOfBoundsException"]
def jDe : List Cond := jDecl.map Cond.declares ++ jCast.map (fun x => Cond.castable x x)
theorem jXa0 : ∀ w ∈ vx_atS "TrainingRows" 49 "java/lang/UnsupportedOperationException" jEx, jgood w = true ∨ w ∈ jDe := by decide +kernel
theorem jXa1 : ∀ w ∈ vx_atS "TrainingRows" 68 "java/lang/IllegalStateException" jEx, jgood w = true ∨ w ∈ jDe := by decide +kernel
theorem jXa2 : ∀ w ∈ vx_atS "TrainingRows" 179 "java/lang/IllegalArgumentException" jEx, jgood w = true ∨ w ∈ jDe := by decide +kernel
theorem jXa3 : ∀ w ∈ vx_atS "TrainingRows" 187 "java/lang/IndexOutOfBoundsException" jEx, jgood w = true ∨ w ∈ jDe := by decide +kernel
theorem jXa : ∀ q ∈ jXL, ∀ w ∈ vx_atS "TrainingRows" q.2.2.2.1 q.2.2.2.2.1 jEx, w ∈ jGW ∨ w ∈ jDe := by
  intro q hq
  have hq2 : (q.2.2.2.1 = 49 ∧ q.2.2.2.2.1 = "java/lang/UnsupportedOperationException") ∨ (q.2.2.2.1 = 68 ∧ q.2.2.2.2.1 = "java/lang/IllegalStateException") ∨ (q.2.2.2.1 = 179 ∧ q.2.2.2.2.1 = "java/lang/IllegalArgumentException") ∨ (q.2.2.2.1 = 187 ∧ q.2.2.2.2.1 = "java/lang/IndexOutOfBoundsException") := by
    revert q; decide +kernel
  intro w hw
  rcases hq2 with ⟨h1, h2⟩ | ⟨h1, h2⟩ | ⟨h1, h2⟩ | ⟨h1, h2⟩
  · rw [h1, h2] at hw; exact (jXa0 w hw).imp jgood_spec id
  · rw [h1, h2] at hw; exact (jXa1 w hw).imp jgood_spec id
  · rw [h1, h2] at hw; exact (jXa2 w hw).imp jgood_spec id
  · rw [h1, h2] at hw; exact (jXa3 w hw).imp jgood_spec id
theorem jXg : ∀ q ∈ jXL, ∀ w ∈ Cond.classLink "TrainingRows" q.2.1 q.2.2.2.2.1 :: Cond.initialized q.2.2.2.2.1 :: vx_atS "TrainingRows" q.2.2.2.1 q.2.2.2.2.1 jEx, vx_ot w = true := by decide +kernel
theorem jXk : ∀ q ∈ jXL, jgood (Cond.classLink "TrainingRows" q.2.1 q.2.2.2.2.1) = true ∧ jgood (Cond.initialized q.2.2.2.2.1) = true ∧ Bundle.fit q.2.2.2.2.1 = true := by decide +kernel
theorem jXf : ∀ n ∈ jEx, Bundle.fit n = true := by decide +kernel
theorem jXo : ∀ q ∈ jXL, jcn (jo q.1.1) = "TrainingRows" ∧ (jh q.1.1).isEmpty = true := by decide +kernel
theorem jXc : ∀ q ∈ jXL, jcode q.1.1 q.1.2 = some (.new q.2.1, 3) ∧ jcode q.1.1 (q.1.2 + 3) = some (.dup, 1) ∧ jcode q.1.1 (q.1.2 + 4) = some (.ldc q.2.2.1, 2) ∧ jcode q.1.1 (q.1.2 + 6) = some (.invokespecial q.2.2.2.1, 3) ∧ jcode q.1.1 (q.1.2 + 9) = some (.athrow, 1) := by decide +kernel
def jStr : List (Nat × String) := jXL.map (fun q => (q.2.2.1, q.2.2.2.2.2))
def jNcL : List (String × String) := [("java/lang/UnsupportedOperationException", "java/lang/IllegalStateException"), ("java/lang/UnsupportedOperationException", "java/lang/IllegalArgumentException"), ("java/lang/UnsupportedOperationException", "java/lang/IndexOutOfBoundsException"), ("java/lang/IllegalStateException", "java/lang/UnsupportedOperationException"), ("java/lang/IllegalStateException", "java/lang/IllegalArgumentException"), ("java/lang/IllegalStateException", "java/lang/IndexOutOfBoundsException"), ("java/lang/IllegalArgumentException", "java/lang/UnsupportedOperationException"), ("java/lang/IllegalArgumentException", "java/lang/IllegalStateException"), ("java/lang/IllegalArgumentException", "java/lang/IndexOutOfBoundsException"), ("java/lang/IndexOutOfBoundsException", "java/lang/UnsupportedOperationException"), ("java/lang/IndexOutOfBoundsException", "java/lang/IllegalStateException"), ("java/lang/IndexOutOfBoundsException", "java/lang/IllegalArgumentException")]
/-- the handlers: their classes by the words, and that the rows ahead name other classes -/
theorem jHk : ∀ i, i < 119 → ∀ q ∈ (jh i).zip (jHC.getD i []), q.1.1 = q.2.1 ∧ q.1.2.1 = q.2.2.1 ∧ q.1.2.2.1 = q.2.2.2.1 ∧ q.1.2.2.2 ≠ 0 ∧ jgood (Cond.classLink (jcn (jo i)) q.1.2.2.2 q.2.2.2.2) = true ∧ q.2.2.2.2 ∈ jCast := by decide +kernel
theorem jHl : ∀ i, i < 119 → (jh i).length = (jHC.getD i []).length := by decide +kernel
end
section
/-- returned: at most mr cells of sr slots are new; thrown: mc, ms -/
def jQ (Qc : Array Value → State → Outcome → State → Prop) (XC : String → State → State → Prop) (mr sr mc ms : Nat) (free : Addr → Prop) : Array Value → State → Outcome → State → Prop := fun a st o t =>
  (Qc a st o t ∧ ∃ L, FrameEnd st o t L mr sr ∧ ∀ q ∈ L, free q.base) ∨ ∃ q, o = .threw q ∧ vx_T XC st q t mc ms free
def jMet (l : Launch) (y : MethodName) (ws : List Cond) (rm : Room) (Pc : Array Value → State → Prop) (Qc : Array Value → State → Outcome → State → Prop) (XC : String → State → State → Prop) (mr sr : Nat) (free : Addr → Prop) : Prop :=
  MetFree l y (headSpec ws rm) Pc (fun _ _ _ _ _ => True) (jQ Qc XC mr sr rm.cells rm.slots free)
section JBack
variable {l : Launch} {R : Room} {p : Program} {e : Env} {below : List Frame} {s : State} {sargs : Array Value} {y : MethodName} {len W9 : Nat}
theorem j_back {ws : List Cond} {rm : Room} {Pc : Array Value → State → Prop} {Qc : Array Value → State → Outcome → State → Prop} {XC : String → State → State → Prop} {mr sr mc ms : Nat} {free : Addr → Prop} {maxL : Nat}
    (hM : jMet l y ws rm Pc Qc XC mr sr free) (hblind : FrameBlind Pc) (hrc : rm.cells = mc) (hrs : rm.slots = ms)
    (hframes : rm.frames + 1 ≤ R.frames) (hlocals : W9 + (maxL + 11) + rm.locals ≤ R.locals)
    (hws : ∀ w ∈ ws, ∀ a' U, s.WarmedH U.vm → w.before a' U = true) (hmt : ∀ (U : State) (mk : MethodId), s.WarmedH U.vm → U.methodNamed? y = some mk → ∃ methY cY, U.vm.method? mk = some methY ∧ methY.code = some cY ∧ cY.maxLocals = maxL) (hinit : ∀ a' U, s.WarmedH U.vm → (Cond.initialized y.cls).before a' U = true) :
    vx_Back l R p e below s sargs y len W9 (PreOf R mc ms Pc) (PostOf Qc mr sr free) (vx_Post XC mc ms free) := by
  intro m meth c A g ig mk a X hg hsize hdg hW hn hp
  have h1 : (headSpec ws rm).pre.before a A.U = true := atoms_intro fun w hw => hws w hw _ _ X.warmed
  have h2 : ∃ methY cY, A.U.vm.method? mk = some methY ∧ methY.code = some cY ∧ cY.maxLocals = maxL := hmt _ _ X.warmed hn
  have h3 : (Cond.initialized y.cls).before a A.U = true := hinit _ _ X.warmed
  have h4 : A.cells + (headSpec ws rm).room.cells ≤ R.cells := by rw [show (headSpec ws rm).room.cells = mc from hrc]; exact hp.1
  have h5 : A.slots + (headSpec ws rm).room.slots ≤ R.slots := by rw [show (headSpec ws rm).room.slots = ms from hrs]; exact hp.2.1
  have hPc : Pc a (A.U.calling g mk a) := hblind _ _ _ _ hp.2.2
  obtain ⟨U, Ls, c0, s0⟩ := A
  dsimp only [Pt.U, Pt.locs, Pt.cells, Pt.slots] at h1 h2 h3 h4 h5 X hn hPc ⊢
  obtain ⟨methY, cY, hmY, hcY, hlY⟩ := h2
  obtain ⟨kY, hkY, -⟩ := className_of_methodNamed hn
  have hinitY : kY.init = .initialized := Cond.initialized_spec (findClass_of_methodNamed hn) hkY h3
  have h : At U g.method c below := by rw [hg]; exact X.here
  have hlocals9 : W9 + (maxL + 11) + (headSpec ws rm).room.locals ≤ R.locals := hlocals
  have happ : (headSpec ws rm).appliesLoose y e.platform (U.calling g mk a) = true :=
    Spec.appliesLoose_calling (g := g) h hdg hn hkY hinitY
      (X.room_calling (g := g) (R' := (headSpec ws rm).room) hsize hmY hcY hframes (by rw [hlY]; omega) h4 h5) h1
  obtain ⟨mid, hmid⟩ := h.above
  have hfr : (U.setTop g).frames = (.java g :: mid) ++ below := by rw [State.frames_setTop' g h.top, hmid]; rfl
  obtain ⟨o, s₂, hsteps, -, hend, hq⟩ := Steps.callFree hM p X.admits X.cas X.clock (acts := []) hfr happ hPc trivial
  have hq' : jQ Qc XC mr sr rm.cells rm.slots free a (U.calling g mk a) o s₂ := hq
  rw [State.frames_setTop' g h.top] at hend
  obtain ⟨g₀, hg0⟩ := Option.isSome_iff_exists.mp h.top
  obtain ⟨r, hr⟩ := State.topJava?_eq_some.mp hg0
  have hr' : (({ U with heap := s₂.heap, slotsUsed := s₂.slotsUsed } : State).setVm s₂.vm).frames = .java g₀ :: r := hr
  rw [hrc, hrs] at hq'
  rcases hq' with ⟨hqc, L, hfe, hL⟩ | ⟨q, rfl, E, ce, L, hx, hce, hcv, hcl, hW₂, hsm, hL⟩
  · obtain ⟨⟨v, rfl⟩, hW₂, e2, q2, q3, q4, q5, q6⟩ := id hfe
    have e3 : s₂ = ({ (U.calling g mk a).setFrames s₂.frames with heap := s₂.heap, slotsUsed := s₂.slotsUsed } : State).setVm s₂.vm := by
      have : s₂ = ({ s₂ with vm := (U.calling g mk a).vm } : State).setVm s₂.vm := rfl
      rw [e2] at this
      exact this
    obtain ⟨c₂, i₂, len₂, hc₂, hd₂, hf₂⟩ := hend
    have hW' : U.WarmedH s₂.vm := hW₂
    have hcc : c₂ = c := by
      have h1 : s₂.code? g.method = U.code? g.method := by
        rw [State.code?_eq, State.code?_eq, hW'.alike.method?]
      exact Option.some.inj (hc₂.symm.trans (h1.trans h.code))
    subst hcc
    have hlen : len₂ = len := by rw [hdg] at hd₂; cases hd₂; rfl
    subst hlen
    have hs₂ : s₂ = (({ U with heap := s₂.heap, slotsUsed := s₂.slotsUsed } : State).setVm s₂.vm).setTop { g with pc := g.pc + len₂, stack := v.toList ++ g.stack } := by
      refine e3.trans ?_
      rw [hf₂, State.calling_eq h.top, State.setFrames_setFrames, State.setTop_of_frames _ hr', hr]
      rfl
    have hsame : U.sameButNew ({ U with heap := s₂.heap, slotsUsed := s₂.slotsUsed } : State) L mr sr := by
      refine ⟨?_, q2, q3, q4, q5, q6⟩
      obtain ⟨t, ht, -⟩ := State.frames_cons hr
      show ({ U with heap := s₂.heap, slotsUsed := s₂.slotsUsed } : State) = { U.setFrames U.frames with heap := s₂.heap, slotsUsed := s₂.slotsUsed }
      rw [State.setFrames_self ht]
    subst hg
    refine Or.inl ⟨v, ⟨(({ U with heap := s₂.heap, slotsUsed := s₂.slotsUsed } : State).setVm s₂.vm), Ls ++ L, c0 + mr, s0 + sr⟩,
      ⟨X.admits, X.cas, X.clock, X.frames, X.room, X.hears, X.method, X.code, (X.here.setHeapUsed s₂.heap s₂.slotsUsed).setVm hW'.alike, X.tail, State.WarmedH.trans X.warmed hW', X.limits, X.bytes, X.same.trans (hsame.setVm s.vm)⟩,
      ⟨g, mk, s₂, L, rfl, rfl, hqc, rfl, hL, rfl, rfl⟩, ?_⟩
    show Steps p.tables e below _ ((({ U with heap := s₂.heap, slotsUsed := s₂.slotsUsed } : State).setVm s₂.vm).setTop { g with pc := g.pc + len₂, stack := v.toList ++ g.stack })
    rw [← hs₂]
    exact hsteps
  · obtain ⟨e2, q2, q3, q4, q5, q6⟩ := id hsm
    have e3 : s₂ = ({ (U.calling g mk a).setFrames s₂.frames with heap := s₂.heap, slotsUsed := s₂.slotsUsed } : State).setVm s₂.vm := by
      have : s₂ = ({ s₂ with vm := (U.calling g mk a).vm } : State).setVm s₂.vm := rfl
      rw [e2] at this
      exact this
    have hf₂ : s₂.frames = .throwing q :: .java g :: U.frames.tail := hend
    have hW' : U.WarmedH s₂.vm := hW₂
    have hs₂ : s₂ = ((({ U with heap := s₂.heap, slotsUsed := s₂.slotsUsed } : State).setVm s₂.vm).setTop g).pushFrame (.throwing q) := by
      refine e3.trans ?_
      rw [hf₂, State.calling_eq h.top, State.setFrames_setFrames, State.pushFrame, State.frames_setTop _ hr', State.setTop_of_frames _ hr', State.setFrames_setFrames, hr]
      rfl
    have hsame : U.sameButNew ({ U with heap := s₂.heap, slotsUsed := s₂.slotsUsed } : State) L mc ms := by
      refine ⟨?_, q2, q3, q4, q5, q6⟩
      obtain ⟨t, ht, -⟩ := State.frames_cons hr
      show ({ U with heap := s₂.heap, slotsUsed := s₂.slotsUsed } : State) = { U.setFrames U.frames with heap := s₂.heap, slotsUsed := s₂.slotsUsed }
      rw [State.setFrames_self ht]
    subst hg
    refine Or.inr ⟨q, ⟨(({ U with heap := s₂.heap, slotsUsed := s₂.slotsUsed } : State).setVm s₂.vm), Ls ++ L, c0 + mc, s0 + ms⟩,
      ⟨X.admits, X.cas, X.clock, X.frames, X.room, X.hears, X.method, X.code, (X.here.setHeapUsed s₂.heap s₂.slotsUsed).setVm hW'.alike, X.tail, State.WarmedH.trans X.warmed hW', X.limits, X.bytes, X.same.trans (hsame.setVm s.vm)⟩,
      ⟨g, mk, s₂, L, E, ce, rfl, rfl, hx, hce, hcv, hcl, rfl, hL, rfl, rfl⟩, ?_⟩
    show Steps p.tables e below _ (((({ U with heap := s₂.heap, slotsUsed := s₂.slotsUsed } : State).setVm s₂.vm).setTop g).pushFrame (.throwing q))
    rw [← hs₂]
    exact hsteps
end JBack
section JInv
variable {p : Program} {l : Launch} {e : Env} {R : Room} {s : State} {m : MethodId} {args : Array Value} {below : List Frame} {meth : Method} {c : Code} {T : State} {locs : List Loc} {cells slots : Nat}
/-- an instruction that calls y with the arguments a, and leaves 'rest' on the stack -/
def jInv (p : Program) (l : Launch) (e : Env) (R : Room) (s : State) (m : MethodId) (args : Array Value) (below : List Frame) (meth : Method) (c : Code) (H : Heap) (locs : List Loc) (cells slots : Nat) (g : JFrame) (rest : List Value) (y : MethodName) (a : Array Value) : Prop :=
  ∀ T : State, T.heap = H → Stand p l e R s m args below meth c T locs cells slots → ∃ (mk : MethodId) (vm₁ : Vm) (ig : Instr), Stand p l e R s m args below meth c (T.setVm vm₁) locs cells slots ∧ s.methodNamed? y = some mk ∧ decode c.code g.pc = .ok (ig, 3) ∧
    ∀ target, Steps p.tables e below (doInvoke e ((T.setVm vm₁).setTop { g with stack := rest }) [] mk a).1 target → Steps p.tables e below (T.setTop g) target
theorem jInvV {H : Heap} (hexec : p.tables.exec = Jvm.exec) {own C : String} {index : Nat} {y : MethodName} {bytes : ByteArray} {maxL : Nat} {ret : Option FieldType}
    (hown : s.vm.findClass own = some m.cls) (hlink : (Cond.methodLink own index y).before args s = true) (hinst : (Cond.instanceMethod y).before args s = true) (hsel : (Cond.selects C y y).before args s = true)
    (hcode : (Cond.code y bytes maxL ret).before args s = true) (hy : y.cls ≠ "java/lang/invoke/MethodHandle" ∧ y.cls ≠ "java/lang/invoke/VarHandle")
    {b : Addr} {cellB : Cell} (hcell : H[b]? = some cellB) (hobj : cellB.vm.isStatics = false) (hcls : s.vm.findClass C = some cellB.cls)
    {g : JFrame} (hg : g.method = m) {argsL rest : List Value} (hlen : ∀ sig, parseMethodDescriptor y.desc = some sig → argsL.length = sig.parameters.length)
    (hstack : g.stack = argsL.reverse ++ .ref b :: rest) (hdg : decode c.code g.pc = .ok (.invokevirtual index, 3)) : jInv p l e R s m args below meth c H locs cells slots g rest y (Value.ref b :: argsL).toArray := by
  intro T hT X
  obtain ⟨mk, methM, hnamed, hmethM, hstM, habM⟩ := Cond.instanceMethod_spec hinst
  obtain ⟨methM', cM, hmethM', -, -, -, -, -, -, hsigM⟩ := Cond.code_spec hnamed hcode
  cases hmethM.symm.trans hmethM'
  obtain ⟨c2, r2, m2, q1, q2, q3, q4, kP, hkP, hkPi⟩ := Cond.selects_spec hsel
  cases hcls.symm.trans q1
  cases (State.methodFound?_of_named hnamed hy).symm.trans q2
  cases hnamed.symm.trans q3
  have hselP : selectMethod e.platform s.vm cellB.cls mk = .method mk := by rw [Launch.admits_selectMethod X.admits]; exact q4
  obtain ⟨vm₁, X₁, hstep₁⟩ := X.invokevirtual hexec hown hlink hnamed hmethM hstM hkP hkPi hy (a := b) (cell := cellB) (by rw [hT]; exact hcell)
    (fun z h => by rw [h] at hobj; cases hobj) hselP hmethM habM hkP hkPi (g := g) hg (argsL := argsL) (rest := rest) (hlen _ hsigM) hstack hdg
  exact ⟨mk, vm₁, _, X₁, hnamed, hdg, fun target h => hstep₁ _ fun acts => by rw [doInvoke_state]; exact h⟩
theorem jInvS {H : Heap} (hexec : p.tables.exec = Jvm.exec) {own : String} {index : Nat} {y : MethodName} {bytes : ByteArray} {maxL : Nat} {ret : Option FieldType}
    (hown : s.vm.findClass own = some m.cls) (hlink : (Cond.methodLink own index y).before args s = true) (hstat : (Cond.static y).before args s = true) (hinit : (Cond.initialized y.cls).before args s = true)
    (hcode : (Cond.code y bytes maxL ret).before args s = true) (hy : y.cls ≠ "java/lang/invoke/MethodHandle" ∧ y.cls ≠ "java/lang/invoke/VarHandle")
    {g : JFrame} (hg : g.method = m) {argsL rest : List Value} (hlen : ∀ sig, parseMethodDescriptor y.desc = some sig → argsL.length = sig.parameters.length)
    (hstack : g.stack = argsL.reverse ++ rest) (hdg : decode c.code g.pc = .ok (.invokestatic index, 3)) : jInv p l e R s m args below meth c H locs cells slots g rest y argsL.toArray := by
  intro T hT X
  obtain ⟨mk, hnamed⟩ := Cond.code_named hcode
  obtain ⟨methM, cM, hmethM, -, -, -, -, -, -, hsigM⟩ := Cond.code_spec hnamed hcode
  have hstatic : methM.isStatic = true := Cond.static_spec hnamed hmethM hstat
  obtain ⟨kP, hkP, -⟩ := className_of_methodNamed hnamed
  have hinitP : kP.init = .initialized := Cond.initialized_spec (findClass_of_methodNamed hnamed) hkP hinit
  obtain ⟨vm₁, X₁, hstep₁⟩ := X.invokestatic hexec hown hlink hnamed hmethM hstatic hkP hinitP hy (g := g) hg (argsL := argsL) (rest := rest) (hlen _ hsigM) hstack hdg
  exact ⟨mk, vm₁, _, X₁, hnamed, hdg, fun target h => hstep₁ _ fun acts => by rw [doInvoke_state]; exact h⟩
theorem jInvSX {H : Heap} (hexec : p.tables.exec = Jvm.exec) {own : String} {index : Nat} {y : MethodName} {bytes : ByteArray} {maxL : Nat} {ret : Option FieldType} {hh : List (Nat × Nat × Nat × Nat)}
    (hown : s.vm.findClass own = some m.cls) (hlink : (Cond.methodLink own index y).before args s = true) (hstat : (Cond.static y).before args s = true) (hinit : (Cond.initialized y.cls).before args s = true)
    (hcode : (Cond.codeWith y bytes maxL ret hh).before args s = true) (hy : y.cls ≠ "java/lang/invoke/MethodHandle" ∧ y.cls ≠ "java/lang/invoke/VarHandle")
    {g : JFrame} (hg : g.method = m) {argsL rest : List Value} (hlen : ∀ sig, parseMethodDescriptor y.desc = some sig → argsL.length = sig.parameters.length)
    (hstack : g.stack = argsL.reverse ++ rest) (hdg : decode c.code g.pc = .ok (.invokestatic index, 3)) : jInv p l e R s m args below meth c H locs cells slots g rest y argsL.toArray := by
  intro T hT X
  obtain ⟨mk, methM, cM, hnamed, hmethM, -, -, -, -, -, -, hsigM⟩ := Cond.codeWith_spec hcode
  have hstatic : methM.isStatic = true := Cond.static_spec hnamed hmethM hstat
  obtain ⟨kP, hkP, -⟩ := className_of_methodNamed hnamed
  have hinitP : kP.init = .initialized := Cond.initialized_spec (findClass_of_methodNamed hnamed) hkP hinit
  obtain ⟨vm₁, X₁, hstep₁⟩ := X.invokestatic hexec hown hlink hnamed hmethM hstatic hkP hinitP hy (g := g) hg (argsL := argsL) (rest := rest) (hlen _ hsigM) hstack hdg
  exact ⟨mk, vm₁, _, X₁, hnamed, hdg, fun target h => hstep₁ _ fun acts => by rw [doInvoke_state]; exact h⟩
theorem jInvSN {H : Heap} (hexec : p.tables.exec = Jvm.exec) {own : String} {index : Nat} {host : String} {y : MethodName} {bytes : ByteArray} {maxL : Nat} {ret : Option FieldType}
    (hown : s.vm.findClass own = some m.cls) (hlink : (Cond.methodLinkNest own index y host).before args s = true) (hstat : (Cond.static y).before args s = true) (hinit : (Cond.initialized y.cls).before args s = true)
    (hcode : (Cond.code y bytes maxL ret).before args s = true) (hy : y.cls ≠ "java/lang/invoke/MethodHandle" ∧ y.cls ≠ "java/lang/invoke/VarHandle")
    {g : JFrame} (hg : g.method = m) {argsL rest : List Value} (hlen : ∀ sig, parseMethodDescriptor y.desc = some sig → argsL.length = sig.parameters.length)
    (hstack : g.stack = argsL.reverse ++ rest) (hdg : decode c.code g.pc = .ok (.invokestatic index, 3)) : jInv p l e R s m args below meth c H locs cells slots g rest y argsL.toArray := by
  intro T hT X
  obtain ⟨mk, hnamed⟩ := Cond.code_named hcode
  obtain ⟨methM, cM, hmethM, -, -, -, -, -, -, hsigM⟩ := Cond.code_spec hnamed hcode
  have hstatic : methM.isStatic = true := Cond.static_spec hnamed hmethM hstat
  obtain ⟨kP, hkP, -⟩ := className_of_methodNamed hnamed
  have hinitP : kP.init = .initialized := Cond.initialized_spec (findClass_of_methodNamed hnamed) hkP hinit
  obtain ⟨vm₁, X₁, hstep₁⟩ := X.invokestaticNest hexec hown hlink hnamed hmethM hstatic hkP hinitP hy (g := g) hg (argsL := argsL) (rest := rest) (hlen _ hsigM) hstack hdg
  exact ⟨mk, vm₁, _, X₁, hnamed, hdg, fun target h => hstep₁ _ fun acts => by rw [doInvoke_state]; exact h⟩
theorem jInvI {H : Heap} (hexec : p.tables.exec = Jvm.exec) {own : String} {index : Nat} {y : MethodName} {bytes : ByteArray} {maxL : Nat}
    (hown : s.vm.findClass own = some m.cls) (hy1 : y.name = "<init>") (hlink : (Cond.methodLink own index y).before args s = true) (hinst : (Cond.instanceMethod y).before args s = true)
    (hcode : (Cond.code y bytes maxL none).before args s = true) (hy : y.cls ≠ "java/lang/invoke/MethodHandle" ∧ y.cls ≠ "java/lang/invoke/VarHandle")
    {g : JFrame} (hg : g.method = m) {a : Addr} {argsL rest : List Value} (hlen : ∀ sig, parseMethodDescriptor y.desc = some sig → argsL.length = sig.parameters.length)
    (hstack : g.stack = argsL.reverse ++ .ref a :: rest) (hdg : decode c.code g.pc = .ok (.invokespecial index, 3)) : jInv p l e R s m args below meth c H locs cells slots g rest y (Value.ref a :: argsL).toArray := by
  intro T hT X
  subst hg
  have hpl : e.platform.magicAccessors = ({} : Platform).magicAccessors := by rw [X.admits.platform]
  obtain ⟨mk, methM, cM, kP, vm₁, hnamed, hmethM, hcodeM, -, hlocalsM, -, hkP, -, hW₁, hstep₁⟩ := Steps.initColdArgs (e := e) X.here hexec X.warmed hpl hown hy1 hy hlink hinst hcode (f := g) rfl hlen hstack hdg
  exact ⟨mk, vm₁, _, X.noted hW₁, hnamed, hdg, fun target h => hstep₁ _ fun acts => by rw [doInvoke_state]; exact h⟩
theorem jInvIN {H : Heap} (hexec : p.tables.exec = Jvm.exec) {own : String} {index : Nat} {host : String} {y : MethodName} {bytes : ByteArray} {maxL : Nat}
    (hown : s.vm.findClass own = some m.cls) (hy1 : y.name = "<init>") (hlink : (Cond.methodLinkNest own index y host).before args s = true) (hinst : (Cond.instanceMethod y).before args s = true)
    (hcode : (Cond.code y bytes maxL none).before args s = true) (hy : y.cls ≠ "java/lang/invoke/MethodHandle" ∧ y.cls ≠ "java/lang/invoke/VarHandle")
    {g : JFrame} (hg : g.method = m) {a : Addr} {argsL rest : List Value} (hlen : ∀ sig, parseMethodDescriptor y.desc = some sig → argsL.length = sig.parameters.length)
    (hstack : g.stack = argsL.reverse ++ .ref a :: rest) (hdg : decode c.code g.pc = .ok (.invokespecial index, 3)) : jInv p l e R s m args below meth c H locs cells slots g rest y (Value.ref a :: argsL).toArray := by
  intro T hT X
  subst hg
  have hpl : e.platform.magicAccessors = ({} : Platform).magicAccessors := by rw [X.admits.platform]
  obtain ⟨mk, methM, cM, kP, vm₁, hnamed, hmethM, hcodeM, -, hlocalsM, -, hkP, -, hW₁, hstep₁⟩ := Steps.initColdArgsNest (e := e) X.here hexec X.warmed hpl hown hy1 hy hlink hinst hcode (f := g) rfl hlen hstack hdg
  exact ⟨mk, vm₁, _, X.noted hW₁, hnamed, hdg, fun target h => hstep₁ _ fun acts => by rw [doInvoke_state]; exact h⟩
/-- the call, come back: returned or thrown -/
theorem jRun {H : Heap} {ws : List Cond} {rm : Room} {Pc : Array Value → State → Prop} {Qc : Array Value → State → Outcome → State → Prop} {XC : String → State → State → Prop} {mr sr : Nat} {free : Addr → Prop} {maxL : Nat} {y : MethodName} {a : Array Value} {g : JFrame} {rest : List Value}
    (hI : jInv p l e R s m args below meth c H locs cells slots g rest y a) (hM : jMet l y ws rm Pc Qc XC mr sr free) (hblind : FrameBlind Pc)
    (hframes : rm.frames + 1 ≤ R.frames) (hlocals : 8 + (maxL + 11) + rm.locals ≤ R.locals)
    (hws : ∀ w ∈ ws, ∀ a' U, s.WarmedH U.vm → w.before a' U = true) (hmt : ∀ (U : State) (mk : MethodId), s.WarmedH U.vm → U.methodNamed? y = some mk → ∃ methY cY, U.vm.method? mk = some methY ∧ methY.code = some cY ∧ cY.maxLocals = maxL) (hinit : (Cond.initialized y.cls).before args s = true)
    (hg : g.method = m) (hsize : g.locals.size = c.maxLocals) (hW : 2 * g.monitorRoom + (rest.map fun v => v.category).sum ≤ 8) (hf : cells + rm.cells ≤ R.cells ∧ slots + rm.slots ≤ R.slots)
    (hp : ∀ U : State, U.heap = H → s.WarmedH U.vm → Pc a U) {Q : State → Prop}
    (kr : ∀ (v : Option Value) (st₀ t T' : State) (L : List Loc), st₀.heap = H → Stand p l e R s m args below meth c T' (locs ++ L) (cells + mr) (slots + sr) → (∀ q ∈ L, free q.base) → T'.heap = t.heap → T'.vm = t.vm → Qc a st₀ (.returned v) t → ∃ t, Steps p.tables e below (T'.setTop { g with pc := g.pc + 3, stack := v.toList ++ rest }) t ∧ Q t)
    (kx : ∀ (q : Addr) (st₀ t T' : State) (L : List Loc) (E : String) (ce : Cell), st₀.heap = H → Stand p l e R s m args below meth c T' (locs ++ L) (cells + rm.cells) (slots + rm.slots) → (∀ z ∈ L, free z.base) → T'.heap = t.heap → T'.vm = t.vm → XC E st₀ t → t.heap[q]? = some ce → ce.vm = .none → s.vm.findClass E = some ce.cls → ∃ t, Steps p.tables e below ((T'.setTop { g with stack := rest }).pushFrame (.throwing q)) t ∧ Q t) :
    W p l e R s m args below meth c H locs cells slots Q g := by
  intro T hT X
  obtain ⟨mk, vm₁, ig, X₁, hnamed, hdg, hstep⟩ := hI T hT X
  have hK : vx_Back l R p e below s args y 3 8 (PreOf R rm.cells rm.slots Pc) (PostOf Qc mr sr free) (vx_Post XC rm.cells rm.slots free) := j_back hM hblind rfl rfl hframes hlocals hws hmt (fun a' U hW => word_at hW (Or.inl (by first | rfl | simp [Cond.onTables, Cond.keeps, Cond.steady])) hinit)
  rcases hK m meth c ⟨T.setVm vm₁, locs, cells, slots⟩ { g with stack := rest } ig mk a X₁ hg hsize hdg hW (X₁.named hnamed) ⟨hf.1, hf.2, hp (T.setVm vm₁) hT X₁.warmed⟩ with ⟨v, ⟨U', l2, c2, s2⟩, X', ⟨g', mk', t, L, e1, e2, hq, h1, hL, h2, h3⟩, st⟩ | ⟨q, ⟨U', l2, c2, s2⟩, X', ⟨g', mk', t, L, E, ce, e1, e2, hq, hce, hcv, hcl, h1, hL, h2, h3⟩, st⟩
  · dsimp only [Pt.U, Pt.locs, Pt.cells, Pt.slots] at X' e1 e2 h1 h2 h3 st
    subst h1; subst h2; subst h3
    obtain ⟨t9, st9, hQ⟩ := kr v ((T.setVm vm₁).calling g' mk' a) t U' L hT X' hL e1 e2 hq
    exact ⟨t9, hstep _ (st.trans st9), hQ⟩
  · dsimp only [Pt.U, Pt.locs, Pt.cells, Pt.slots] at X' e1 e2 h1 h2 h3 st hcl
    subst h1; subst h2; subst h3
    obtain ⟨t9, st9, hQ⟩ := kx q ((T.setVm vm₁).calling g' mk' a) t U' L E ce hT X' hL e1 e2 hq hce hcv (vx_cls X₁.warmed hcl) 
    exact ⟨t9, hstep _ (st.trans st9), hQ⟩
end JInv
end
section
/-! OUR SMALL MACHINE: logical values and cells, and what they are in the real heap -/
/-- a logical value's real one: addresses by al -/
def jt (al : Nat → Nat) (v : Value) : Value := match v with
  | .ref k => .ref (al k)
  | .int x => .int x
  | .long x => .long x
  | .float x => .float x
  | .double x => .double x
  | .null => .null
  | .retAddr x => .retAddr x
theorem jt_cat (al : Nat → Nat) (v : Value) : (jt al v).category = v.category := by cases v <;> rfl
theorem jt_sum (al : Nat → Nat) (vs : List Value) : ((vs.map (jt al)).map fun v => v.category).sum = (vs.map fun v => v.category).sum := by
  rw [List.map_map]
  congr 1
  exact List.map_congr_left fun v _ => jt_cat al v
/-- a logical cell: an array (number of its type, length, contents), an object (number of its kind, fields) -/
abbrev jC : Type := (Nat × Nat × ((Nat → Int32) ⊕ (Nat → Int64))) ⊕ (Nat × List Value)
def jE (cA : Nat → ClassId) (al : Nat → Nat) (c : jC) : va_E := match c with
  | .inl (t, n, .inl f) => .inl (cA t, n, .inl f)
  | .inl (t, n, .inr f) => .inl (cA t, n, .inr (.inl f))
  | .inr (k, fs) => .inr (k, fs.map (jt al))
def jW (cA : Nat → ClassId) (al : Nat → Nat) : Nat → List jC → va_W
  | _, [] => []
  | k, c :: r => (al k, jE cA al c) :: jW cA al (k + 1) r
theorem jW_get (cA : Nat → ClassId) (al : Nat → Nat) : ∀ (h : List jC) (n k : Nat), (jW cA al n h)[k]? = (h[k]?).map (fun c => (al (n + k), jE cA al c))
  | [], n, k => by simp [jW]
  | c :: r, n, 0 => by simp [jW]
  | c :: r, n, k + 1 => by
    simp only [jW, List.getElem?_cons_succ]
    rw [jW_get cA al r (n + 1) k, show n + 1 + k = n + (k + 1) by omega]
theorem jW_set (cA : Nat → ClassId) (al : Nat → Nat) : ∀ (h : List jC) (n k : Nat) (c : jC), jW cA al n (h.set k c) = (jW cA al n h).set k (al (n + k), jE cA al c)
  | [], n, k, c => by simp [jW]
  | d :: r, n, 0, c => by simp [jW]
  | d :: r, n, k + 1, c => by
    simp only [jW, List.set_cons_succ]
    rw [jW_set cA al r (n + 1) k, show n + 1 + k = n + (k + 1) by omega]
theorem jW_app (cA : Nat → ClassId) (al : Nat → Nat) : ∀ (h : List jC) (n : Nat) (c : jC), jW cA al n (h ++ [c]) = jW cA al n h ++ [(al (n + h.length), jE cA al c)]
  | [], n, c => by simp [jW]
  | d :: r, n, c => by
    simp only [jW, List.cons_append, List.length_cons]
    rw [jW_app cA al r (n + 1) c, show n + 1 + r.length = n + (r.length + 1) by omega]
theorem jW_at {cA : Nat → ClassId} {al : Nat → Nat} {h : List jC} {k : Nat} {c : jC} (hk : h[k]? = some c) : (jW cA al 0 h)[k]? = some (al k, jE cA al c) := by
  rw [jW_get, hk, Nat.zero_add]; rfl
/-- the environment: numbers of the real tables; the heap's size at the start; the script -/
abbrev jEnv : Type := (Nat → ClassId) × (Nat → Nat → Nat) × (Nat → ClassId) × Nat × Nat × Nat × (Nat → Int32)
def jA (E : jEnv) : Nat → Prop := fun q => E.2.2.2.1 ≤ q
def jD (E : jEnv) : va_G := (E.1, E.2.1)
def jtys (E : jEnv) : List (ClassId × FieldType) := [(E.2.2.1 0, .int), (E.2.2.1 1, .boolean), (E.2.2.1 2, .long)]
/-- what holds of the tables and of the cells that nobody writes -/
def jBase (E : jEnv) (U : State) (H : Heap) : Prop :=
  va_K (jD E) jCl (jtys E) U ∧ vx_Zq Bundle.tN "UNASSIGNED_STACK" Bundle.steD (jA E) U H ∧ vx_Zq Bundle.tN "SUPPRESSED_SENTINEL" Bundle.listD (jA E) U H ∧
  (∀ q ∈ jStr, ∃ sa, vk_R "TrainingRows" q.1 q.2 sa U) ∧ (∀ q ∈ jNcL, va_Nc q.1 q.2 U) ∧ (∀ q ∈ jNest, va_Nw (.methodLinkNest q.1 q.2.1 q.2.2.1 q.2.2.2) U) ∧
  (∀ q ∈ jDecl, va_Nw (.declares q) U) ∧ (∀ q ∈ jCast, va_Nw (.castable q q) U) ∧ va_X E.2.2.2.2.1 E.2.2.2.2.2.1 E.2.2.2.2.2.2 U H ∧ E.2.2.2.1 ≤ H.size ∧ E.2.2.2.2.1 < E.2.2.2.1
theorem jBase_moved {E : jEnv} {s U : State} {H0 H : Heap} (hW : s.WarmedH U.vm) (hz : H0.size ≤ H.size) (hk : ∀ q : Nat, q < H0.size → ¬ jA E q → H[q]? = H0[q]?) (h : jBase E s H0) : jBase E U H := by
  obtain ⟨h1, h2, h3, h4, h5, h6, h7, h8, h9, h10, h11⟩ := h
  refine ⟨va_K.moved hW.alike h1, vx_Zq.moved hW.alike (h2.kept hk), vx_Zq.moved hW.alike (h3.kept hk), fun q hq => ?_, fun q hq => va_Nc.moved hW.alike (h5 q hq), fun q hq => va_Nw.warmM hW (h6 q hq), fun q hq => va_Nw.warmD hW (h7 q hq), fun q hq => va_Nw.warmC hW (h8 q hq), va_X.moved hW.alike (h9.kept (hk _ (by omega) (Nat.not_le.mpr h11))), by omega, h11⟩
  obtain ⟨sa, ha⟩ := h4 q hq
  exact ⟨sa, vk_R.warm hW ha⟩
/-- the heap H holds the logical heap h, at the addresses al; the script is address 9999 -/
def jHeap (E : jEnv) (al : Nat → Nat) (h : List jC) (H : Heap) : Prop := va_P (jD E) jCl (jW E.2.2.1 al 0 h) H ∧ va_D (jA E) (jW E.2.2.1 al 0 h) ∧ al 9999 = E.2.2.2.2.1
/-- later addresses agree with the earlier ones -/
def jExt (al : Nat → Nat) (h : List jC) (al' : Nat → Nat) (h' : List jC) : Prop := h.length ≤ h'.length ∧ (∀ k, k < h.length → al' k = al k) ∧ (h'.length = h.length → al' = al)
theorem jExt_rf {al : Nat → Nat} {h : List jC} : jExt al h al h := ⟨Nat.le_refl _, fun _ _ => rfl, fun _ => rfl⟩
theorem jExt_set {al al' : Nat → Nat} {h h' : List jC} {k : Nat} {c : jC} (x : jExt al h al' h') : jExt al h al' (h'.set k c) := by
  obtain ⟨x1, x2, x3⟩ := x
  exact ⟨by rw [List.length_set]; exact x1, x2, fun e => x3 (by rw [List.length_set] at e; exact e)⟩
theorem jExt_tr {al al' al'' : Nat → Nat} {h h' h'' : List jC} (x : jExt al h al' h') (y : jExt al' h' al'' h'') : jExt al h al'' h'' := by
  obtain ⟨x1, x2, x3⟩ := x
  obtain ⟨y1, y2, y3⟩ := y
  refine ⟨by omega, fun k hk => (y2 k (by omega)).trans (x2 k hk), fun e => ?_⟩
  rw [y3 (by omega), x3 (by omega)]
/-- an outcome: returned with a value or without, or thrown, by its exact name -/
abbrev jO : Type := Option Value ⊕ String
def jQc (E : jEnv) (Q : jO → List jC → Prop) (al0 : Nat → Nat) (h0 : List jC) : Array Value → State → Outcome → State → Prop := fun _ st o t =>
  ∃ (v : Option Value) (al' : Nat → Nat) (h' : List jC), o = .returned (v.map (jt al')) ∧ Q (.inl v) h' ∧ jExt al0 h0 al' h' ∧ jHeap E al' h' t.heap ∧ va_F (jA E) st t
def jXC (E : jEnv) (Q : jO → List jC → Prop) (al0 : Nat → Nat) (h0 : List jC) : String → State → State → Prop := fun X st t =>
  ∃ (al' : Nat → Nat) (h' : List jC), X ∈ jCast ∧ Q (.inr X) h' ∧ jExt al0 h0 al' h' ∧ jHeap E al' h' t.heap ∧ va_F (jA E) st t
def jMQ (E : jEnv) (Q : jO → List jC → Prop) (i : Nat) (al0 : Nat → Nat) (h0 : List jC) (below : List Frame) (a : Array Value) (s : State) : State → Prop := fun t =>
  ∃ o, t.status = .running ∧ Ended t below o ∧ jQ (jQc E Q al0 h0) (jXC E Q al0 h0) (jrc i) (jrs i) (jm i).cells (jm i).slots (jA E) a s o t
def jCtx (l : Launch) (E : jEnv) (i : Nat) (p : Program) (S : State) (m : MethodId) (args : Array Value) (meth : Method) (cd : Code) : Prop :=
  p.tables.exec = Jvm.exec ∧ cd.code = jb i ∧ cd.maxLocals = jl i ∧ meth.sig.returnType = jr i ∧ S.vm.findClass (jcn (jo i)) = some m.cls ∧ (∀ w ∈ jGW, w.before args S = true) ∧ cd.exceptionTable.toList = tableOf (jh i) ∧ meth.locks = false ∧ ((jn i).name = "<init>" → meth.name = "<init>") ∧ jBase E S S.heap ∧ l.stackTraces = false
/-- the locals, slot by slot; what is none is not known -/
def jlist : Nat → List (Option Value) → List (Nat × Value)
  | _, [] => []
  | k, none :: r => jlist (k + 1) r
  | k, some v :: r => (k, v) :: jlist (k + 1) r
theorem jlist_mem : ∀ (loc : List (Option Value)) (n : Nat) (q : Nat × Value), q ∈ jlist n loc ↔ ∃ j, q.1 = n + j ∧ loc[j]? = some (some q.2)
  | [], n, q => by simp [jlist]
  | none :: r, n, q => by
    rw [jlist, jlist_mem r (n + 1) q]
    constructor
    · rintro ⟨j, h1, h2⟩
      exact ⟨j + 1, by omega, by simpa using h2⟩
    · rintro ⟨j, h1, h2⟩
      cases j with
      | zero => simp at h2
      | succ j => exact ⟨j, by omega, by simpa using h2⟩
  | some v :: r, n, q => by
    rw [jlist, List.mem_cons, jlist_mem r (n + 1) q]
    constructor
    · rintro (rfl | ⟨j, h1, h2⟩)
      · exact ⟨0, rfl, rfl⟩
      · exact ⟨j + 1, by omega, by simpa using h2⟩
    · rintro ⟨j, h1, h2⟩
      cases j with
      | zero => left; simp at h2; obtain ⟨a, b⟩ := q; simp at h1 h2; rw [h1, h2]
      | succ j => right; exact ⟨j, by omega, by simpa using h2⟩
def jlv (al : Nat → Nat) (loc : List (Option Value)) : List (Nat × Value) := (jlist 0 loc).map (fun q => (q.1, jt al q.2))
theorem jlv_mem {al : Nat → Nat} {loc : List (Option Value)} {k : Nat} {v : Value} (h : loc[k]? = some (some v)) : (k, jt al v) ∈ jlv al loc :=
  List.mem_map.mpr ⟨(k, v), (jlist_mem loc 0 (k, v)).mpr ⟨k, (Nat.zero_add k).symm, h⟩, rfl⟩
theorem jlv_at {al : Nat → Nat} {loc : List (Option Value)} {k n : Nat} {v : Value} {ls : Array Slot} (hl : lv_has ls n (jlv al loc)) (h : loc[k]? = some (some v)) : ls[k]? = some (.val (jt al v)) := hl.2.2 _ (jlv_mem h)
/-- from here the method i comes to its end, and there Q -/
def GO (l : Launch) (E : jEnv) (i pc : Nat) (loc : List (Option Value)) (st : List Value) (h : List jC) (c s : Nat) (Q : jO → List jC → Prop) : Prop :=
  ∀ (p : Program) (e : Env) (S : State) (m : MethodId) (args : Array Value) (below : List Frame) (meth : Method) (cd : Code), jCtx l E i p S m args meth cd →
  ∀ (al0 : Nat → Nat) (h0 : List jC) (al : Nat → Nat) (H : Heap) (locs : List Loc) (ls : Array Slot), jExt al0 h0 al h → jHeap E al h H → va_S (jA E) S.heap H locs → lv_has ls (jl i) (jlv al loc) →
  W p l e (jm i) S m args below meth cd H locs c s (jMQ E Q i al0 h0 below args S) (F0 m pc ls (st.map (jt al)))
/-- a store into a slot that no long covers -/
def jfree (loc : List (Option Value)) : Nat → Bool
  | 0 => true
  | k + 1 => match loc[k]? with
    | some (some (.long _)) => false
    | some (some (.double _)) => false
    | _ => true
theorem jlv_put {al : Nat → Nat} {loc : List (Option Value)} {i n : Nat} {v : Value} {ls : Array Slot} (hf : jfree loc i = true) (h : lv_has ls n ((i, jt al v) :: (jlv al loc).filter (fun q => !(q.1 == i) && !(q.1 + 1 == i && q.2.category == 2)))) : lv_has ls n (jlv al (loc.set i (some v))) := by
  refine ⟨h.1, h.2.1, fun q hq => h.2.2 q ?_⟩
  obtain ⟨⟨j, w⟩, hw, rfl⟩ := List.mem_map.mp hq
  obtain ⟨k, hk, hg⟩ := (jlist_mem _ 0 (j, w)).mp hw
  rw [Nat.zero_add] at hk
  dsimp only at hk hg ⊢
  subst hk
  by_cases hji : j = i
  · subst hji
    have hlt : j < loc.length := by
      have := (List.getElem?_eq_some_iff.mp hg).1
      rwa [List.length_set] at this
    rw [List.getElem?_set_self hlt] at hg
    cases hg
    exact List.mem_cons_self
  · rw [List.getElem?_set_ne (Ne.symm hji)] at hg
    refine List.mem_cons_of_mem _ (List.mem_filter.mpr ⟨jlv_mem hg, ?_⟩)
    simp only [Bool.and_eq_true, Bool.not_eq_true', beq_eq_false_iff_ne, ne_eq, Bool.and_eq_false_iff]
    refine ⟨hji, ?_⟩
    by_cases h1 : j + 1 = i
    · right
      subst h1
      rw [jt_cat]
      cases w with
      | long x => simp [jfree, hg] at hf
      | double x => simp [jfree, hg] at hf
      | _ => simp [Value.category]
    · left; exact h1
/-- a value is forgotten -/
theorem jlv_drop {al : Nat → Nat} {loc : List (Option Value)} {i n : Nat} {v : Value} {ls : Array Slot} (hf : jfree loc i = true) (h : lv_has ls n ((i, v) :: (jlv al loc).filter (fun q => !(q.1 == i) && !(q.1 + 1 == i && q.2.category == 2)))) : lv_has ls n (jlv al (loc.set i none)) := by
  refine ⟨h.1, h.2.1, fun q hq => h.2.2 q ?_⟩
  obtain ⟨⟨j, w⟩, hw, rfl⟩ := List.mem_map.mp hq
  obtain ⟨k, hk, hg⟩ := (jlist_mem _ 0 (j, w)).mp hw
  rw [Nat.zero_add] at hk
  dsimp only at hk hg ⊢
  subst hk
  by_cases hji : j = i
  · subst hji
    have hlt : j < loc.length := by
      have := (List.getElem?_eq_some_iff.mp hg).1
      rwa [List.length_set] at this
    rw [List.getElem?_set_self hlt] at hg
    cases hg
  · rw [List.getElem?_set_ne (Ne.symm hji)] at hg
    refine List.mem_cons_of_mem _ (List.mem_filter.mpr ⟨jlv_mem hg, ?_⟩)
    simp only [Bool.and_eq_true, Bool.not_eq_true', beq_eq_false_iff_ne, ne_eq, Bool.and_eq_false_iff]
    refine ⟨hji, ?_⟩
    by_cases h1 : j + 1 = i
    · right
      subst h1
      rw [jt_cat]
      cases w with
      | long x => simp [jfree, hg] at hf
      | double x => simp [jfree, hg] at hf
      | _ => simp [Value.category]
    · left; exact h1
end
section
/-! one instruction's step, as what must hold; jop at an instruction in its plain form (slots by number, targets by place) -/
def jnorm (pc : Nat) : Instr → Instr
  | .iload_n n => .iload n.val
  | .aload_n n => .aload n.val
  | .lload_n n => .lload n.val
  | .istore_n n => .istore n.val
  | .astore_n n => .astore n.val
  | .goto off => .goto (pc + off)
  | .ifCond c off => .ifCond c (pc + off)
  | .if_icmp c off => .if_icmp c (pc + off)
  | .tableswitch d lo hi offs => .tableswitch (pc + d) lo hi (offs.map (fun o => pc + o))
  | x => x
def jcd (i pc : Nat) : Option (Instr × Nat) := (jcode i pc).map (fun r => (jnorm pc r.1, pc + r.2))
/-- what is checked once of every row of the code -/
def jchk (i : Nat) (q : Nat × Instr × Nat) : Bool := match q.2.1 with
  | .iload_n _ => q.2.2 == 1
  | .aload_n _ => q.2.2 == 1
  | .lload_n _ => q.2.2 == 1
  | .istore_n k => q.2.2 == 1 && decide (k.val < jl i)
  | .astore_n k => q.2.2 == 1 && decide (k.val < jl i)
  | .iload _ => q.2.2 == 2
  | .aload _ => q.2.2 == 2
  | .lload _ => q.2.2 == 2
  | .istore k => q.2.2 == 2 && decide (k < jl i)
  | .astore k => q.2.2 == 2 && decide (k < jl i)
  | .iinc k _ => q.2.2 == 3 && decide (k < jl i)
  | .bipush _ => q.2.2 == 2
  | .sipush _ => q.2.2 == 3
  | .ldc _ => q.2.2 == 2
  | .ldc2_w _ => q.2.2 == 3
  | .getfield _ => q.2.2 == 3
  | .putfield _ => q.2.2 == 3
  | .invokevirtual _ => q.2.2 == 3
  | .invokestatic _ => q.2.2 == 3
  | .invokespecial _ => q.2.2 == 3
  | .new _ => q.2.2 == 3
  | .newarray _ => q.2.2 == 2
  | .goto o => q.2.2 == 3 && decide (0 ≤ (q.1 : Int) + o)
  | .ifCond _ o => q.2.2 == 3 && decide (0 ≤ (q.1 : Int) + o)
  | .if_icmp _ o => q.2.2 == 3 && decide (0 ≤ (q.1 : Int) + o)
  | .tableswitch d lo hi offs => decide (0 ≤ (q.1 : Int) + d) && offs.toList.all (fun o => decide (0 ≤ (q.1 : Int) + o)) && decide (lo ≤ hi) && decide ((offs.size : Int) = hi - lo + 1) && decide (0 ≤ lo) && decide (hi < 1000)
  | .ireturn => q.2.2 == 1 && (jr i == some .int || jr i == some .boolean)
  | .return_ => q.2.2 == 1 && (jr i).isNone
  | _ => q.2.2 == 1
theorem jchk_all : ∀ i, i < 119 → ∀ q ∈ jKs.getD i [], jchk i q = true := by decide +kernel
theorem jchk_of {i pc : Nat} {r : Instr × Nat} (h : jcode i pc = some r) : jchk i (pc, r) = true := by
  have hi := jlt h
  obtain ⟨a, h1, h2⟩ := jfind (f := fun a => a == pc) (show ((jKs.getD i []).find? (fun q => q.1 == pc)).map (fun q => q.2) = some r from h)
  have ha : a = pc := by simpa using h2
  subst ha
  exact jchk_all i hi (a, r) h1
/-! the shapes of stack, locals and heap that an instruction wants -/
def j1i (st : List Value) (F : Int32 → List Value → Prop) : Prop := match st with
  | .int x :: r => F x r
  | _ => False
def j1r (st : List Value) (F : Nat → List Value → Prop) : Prop := match st with
  | .ref a :: r => F a r
  | _ => False
def j1l (st : List Value) (F : Int64 → List Value → Prop) : Prop := match st with
  | .long x :: r => F x r
  | _ => False
def j2i (st : List Value) (F : Int32 → Int32 → List Value → Prop) : Prop := match st with
  | .int y :: .int x :: r => F x y r
  | _ => False
def j2l (st : List Value) (F : Int64 → Int64 → List Value → Prop) : Prop := match st with
  | .long y :: .long x :: r => F x y r
  | _ => False
def jil (st : List Value) (F : Int64 → Int32 → List Value → Prop) : Prop := match st with
  | .int y :: .long x :: r => F x y r
  | _ => False
def jia (st : List Value) (F : Nat → Int32 → List Value → Prop) : Prop := match st with
  | .int j :: .ref a :: r => F a j r
  | _ => False
def jiia (st : List Value) (F : Nat → Int32 → Int32 → List Value → Prop) : Prop := match st with
  | .int x :: .int j :: .ref a :: r => F a j x r
  | _ => False
def jlia (st : List Value) (F : Nat → Int32 → Int64 → List Value → Prop) : Prop := match st with
  | .long x :: .int j :: .ref a :: r => F a j x r
  | _ => False
def jgi (o : Option (Option Value)) (F : Int32 → Prop) : Prop := match o with
  | some (some (.int x)) => F x
  | _ => False
def jgl (o : Option (Option Value)) (F : Int64 → Prop) : Prop := match o with
  | some (some (.long x)) => F x
  | _ => False
def jgr (o : Option (Option Value)) (F : Nat → Prop) : Prop := match o with
  | some (some (.ref x)) => F x
  | _ => False
def jar (o : Option jC) (t : Nat) (F : Nat → (Nat → Int32) → Prop) : Prop := match o with
  | some (.inl (t', n, .inl f)) => t' = t ∧ F n f
  | _ => False
def jal (o : Option jC) (F : Nat → (Nat → Int64) → Prop) : Prop := match o with
  | some (.inl (t', n, .inr f)) => t' = 2 ∧ F n f
  | _ => False
def job (o : Option jC) (k : Nat) (F : List Value → Prop) : Prop := match o with
  | some (.inr (k', fs)) => k' = k ∧ F fs
  | _ => False
def jso {α : Type} (o : Option α) (F : α → Prop) : Prop := match o with
  | some a => F a
  | none => False
theorem j1i_s {st : List Value} {F : Int32 → List Value → Prop} (h : j1i st F) : ∃ x r, st = .int x :: r ∧ F x r := by
  unfold j1i at h; split at h
  · exact ⟨_, _, rfl, h⟩
  · exact h.elim
theorem j1r_s {st : List Value} {F : Nat → List Value → Prop} (h : j1r st F) : ∃ x r, st = .ref x :: r ∧ F x r := by
  unfold j1r at h; split at h
  · exact ⟨_, _, rfl, h⟩
  · exact h.elim
theorem j1l_s {st : List Value} {F : Int64 → List Value → Prop} (h : j1l st F) : ∃ x r, st = .long x :: r ∧ F x r := by
  unfold j1l at h; split at h
  · exact ⟨_, _, rfl, h⟩
  · exact h.elim
theorem j2i_s {st : List Value} {F : Int32 → Int32 → List Value → Prop} (h : j2i st F) : ∃ x y r, st = .int y :: .int x :: r ∧ F x y r := by
  unfold j2i at h; split at h
  · exact ⟨_, _, _, rfl, h⟩
  · exact h.elim
theorem j2l_s {st : List Value} {F : Int64 → Int64 → List Value → Prop} (h : j2l st F) : ∃ x y r, st = .long y :: .long x :: r ∧ F x y r := by
  unfold j2l at h; split at h
  · exact ⟨_, _, _, rfl, h⟩
  · exact h.elim
theorem jil_s {st : List Value} {F : Int64 → Int32 → List Value → Prop} (h : jil st F) : ∃ x y r, st = .int y :: .long x :: r ∧ F x y r := by
  unfold jil at h; split at h
  · exact ⟨_, _, _, rfl, h⟩
  · exact h.elim
theorem jia_s {st : List Value} {F : Nat → Int32 → List Value → Prop} (h : jia st F) : ∃ a j r, st = .int j :: .ref a :: r ∧ F a j r := by
  unfold jia at h; split at h
  · exact ⟨_, _, _, rfl, h⟩
  · exact h.elim
theorem jiia_s {st : List Value} {F : Nat → Int32 → Int32 → List Value → Prop} (h : jiia st F) : ∃ a j x r, st = .int x :: .int j :: .ref a :: r ∧ F a j x r := by
  unfold jiia at h; split at h
  · exact ⟨_, _, _, _, rfl, h⟩
  · exact h.elim
theorem jlia_s {st : List Value} {F : Nat → Int32 → Int64 → List Value → Prop} (h : jlia st F) : ∃ a j x r, st = .long x :: .int j :: .ref a :: r ∧ F a j x r := by
  unfold jlia at h; split at h
  · exact ⟨_, _, _, _, rfl, h⟩
  · exact h.elim
theorem jgi_s {o : Option (Option Value)} {F : Int32 → Prop} (h : jgi o F) : ∃ x, o = some (some (.int x)) ∧ F x := by
  unfold jgi at h; split at h
  · exact ⟨_, rfl, h⟩
  · exact h.elim
theorem jgl_s {o : Option (Option Value)} {F : Int64 → Prop} (h : jgl o F) : ∃ x, o = some (some (.long x)) ∧ F x := by
  unfold jgl at h; split at h
  · exact ⟨_, rfl, h⟩
  · exact h.elim
theorem jgr_s {o : Option (Option Value)} {F : Nat → Prop} (h : jgr o F) : ∃ x, o = some (some (.ref x)) ∧ F x := by
  unfold jgr at h; split at h
  · exact ⟨_, rfl, h⟩
  · exact h.elim
theorem jar_s {o : Option jC} {t : Nat} {F : Nat → (Nat → Int32) → Prop} (h : jar o t F) : ∃ n f, o = some (.inl (t, n, .inl f)) ∧ F n f := by
  unfold jar at h; split at h
  · obtain ⟨rfl, h⟩ := h; exact ⟨_, _, rfl, h⟩
  · exact h.elim
theorem jal_s {o : Option jC} {F : Nat → (Nat → Int64) → Prop} (h : jal o F) : ∃ n f, o = some (.inl (2, n, .inr f)) ∧ F n f := by
  unfold jal at h; split at h
  · obtain ⟨rfl, h⟩ := h; exact ⟨_, _, rfl, h⟩
  · exact h.elim
theorem job_s {o : Option jC} {k : Nat} {F : List Value → Prop} (h : job o k F) : ∃ fs, o = some (.inr (k, fs)) ∧ F fs := by
  unfold job at h; split at h
  · obtain ⟨rfl, h⟩ := h; exact ⟨_, rfl, h⟩
  · exact h.elim
theorem jso_s {α : Type} {o : Option α} {F : α → Prop} (h : jso o F) : ∃ a, o = some a ∧ F a := by
  unfold jso at h; split at h
  · exact ⟨_, rfl, h⟩
  · exact h.elim
def jcnd : ClassFile.Cond → Int32 → Int32 → Prop
  | .eq, x, y => x = y
  | .ne, x, y => ¬ x = y
  | .lt, x, y => x < y
  | .ge, x, y => y ≤ x
  | .gt, x, y => y < x
  | .le, x, y => x ≤ y
/-- at most four values -/
def jrest : List Value → Bool
  | [] => true
  | [_] => true
  | [_, _] => true
  | [_, _, _] => true
  | [_, _, _, _] => true
  | _ => false
theorem jrest_s {r : List Value} (h : jrest r = true) : (r.map fun v => v.category).sum ≤ 8 := by
  have hc : ∀ v : Value, v.category ≤ 2 := fun v => by cases v <;> simp [Value.category]
  match r, h with
  | [], _ => simp
  | [a], _ => simp; have := hc a; omega
  | [a, b], _ => simp; have := hc a; have := hc b; omega
  | [a, b, c], _ => simp; have := hc a; have := hc b; have := hc c; omega
  | [a, b, c, d], _ => simp; have := hc a; have := hc b; have := hc c; have := hc d; omega
/-- the callee's room in the caller's -/
def jfit (i k c s : Nat) : Bool := decide ((jm k).frames + 1 ≤ (jm i).frames) && decide (8 + (jl k + 11) + (jm k).locals ≤ (jm i).locals) && decide (c + (jm k).cells ≤ (jm i).cells) && decide (s + (jm k).slots ≤ (jm i).slots)
def jtake : Nat → List Value → List Value → Option (List Value × List Value)
  | 0, acc, st => some (acc, st)
  | n + 1, acc, v :: st => jtake n (v :: acc) st
  | _ + 1, _, [] => none
theorem jtake_s : ∀ (n : Nat) (acc st as r : List Value), jtake n acc st = some (as, r) → ∃ bs, bs.length = n ∧ st = bs.reverse ++ r ∧ as = bs ++ acc
  | 0, acc, st, as, r, h => by cases h; exact ⟨[], rfl, rfl, rfl⟩
  | n + 1, acc, v :: st, as, r, h => by
    obtain ⟨bs, h1, h2, h3⟩ := jtake_s n (v :: acc) st as r h
    refine ⟨bs ++ [v], by simp [h1], by simp [h2], by simp [h3]⟩
  | n + 1, acc, [], as, r, h => by cases h
/-- the callee's locals at its entry -/
def jent : List Value → List (Option Value)
  | [] => []
  | .long x :: r => some (.long x) :: none :: jent r
  | .double x :: r => some (.double x) :: none :: jent r
  | v :: r => some v :: jent r
def jpad (n : Nat) (l : List (Option Value)) : List (Option Value) := l ++ List.replicate (n - l.length) none
/-- all references below n (or the script's) -/
def jwfv (n : Nat) : Value → Bool
  | .ref k => decide (k < n) || k == 9999
  | _ => true
def jwf (n : Nat) (loc : List (Option Value)) (st : List Value) : Bool := loc.all (fun o => match o with | some v => jwfv n v | none => true) && st.all (jwfv n)
def jwfh (n : Nat) (h : List jC) : Bool := h.all (fun c => match c with | .inl _ => true | .inr o => o.2.all (jwfv n))
/-- long constants -/
def jlong (i x : Nat) : Option Int64 := if jo i = 3 ∧ x = 211 then some 15 else if jo i = 5 ∧ x = 137 then some 4294967295 else none
/-- kinds of fields: 0 a number, 1 a reference that is set once -/
def jfk (k f : Nat) : Nat := if (((jCl[k]?).getD ("", jT0, 0)).2.1 f).2.2.2 = true then 1 else 0
/-- a new object's fields -/
def jdef (k : Nat) : List Value := (List.range ((jCl[k]?).getD ("", jT0, 0)).2.2).map (fun f => if jfk k f = 0 then .int 0 else .null)
abbrev jK : Type := Nat → List (Option Value) → List Value → List jC → Nat → Nat → Prop
/-- a callee's end, seen by its caller -/
def jback (i pc nx k : Nat) (loc : List (Option Value)) (r : List Value) (h : List jC) (c s : Nat) (K : jK) (Q : jO → List jC → Prop) : jO → List jC → Prop := fun o h' =>
  match o with
  | .inl v => (h'.length = h.length ∨ jwf h.length loc r = true) ∧ K nx loc (v.toList ++ r) h' (c + jrc k) (s + jrs k)
  | .inr X => (h'.length = h.length ∨ jwf h.length loc r = true) ∧ match jhan i pc X with
    | some q => jso (jcd i q) (fun z => match z.1 with
      | .astore j => jfree loc j = true ∧ K z.2 (loc.set j none) [] h' (c + (jm k).cells) (s + (jm k).slots)
      | _ => False)
    | none => (jh i).isEmpty = true ∧ Q (.inr X) h'
def jcall (l : Launch) (E : jEnv) (i pc x nx : Nat) (loc : List (Option Value)) (st : List Value) (h : List jC) (c s : Nat) (K : jK) (Q : jO → List jC → Prop) (kinds : List Nat) : Prop :=
  jso (jcal i x) fun q => q.1 ∈ kinds ∧ jso (jtake (jp q.2 + (if q.1 = 1 ∨ q.1 = 4 ∨ q.1 = 6 then 0 else 1)) [] st) fun a =>
    jrest a.2 = true ∧ jfit i q.2 c s = true ∧ (jent a.1).length ≤ jl q.2 ∧ (q.1 = 0 → jso a.1[0]? fun v => match v with
      | .ref b => job h[b]? (jo q.2) fun _ => True
      | _ => False) ∧ (q.1 = 2 ∨ q.1 = 5 → jso a.1[0]? fun v => match v with
      | .ref _ => True
      | _ => False) ∧ GO l E q.2 0 (jpad (jl q.2) (jent a.1)) [] h 0 0 (jback i pc nx q.2 loc a.2 h c s K Q)
def jop (l : Launch) (E : jEnv) (i pc : Nat) (ins : Instr) (nx : Nat) (loc : List (Option Value)) (st : List Value) (h : List jC) (c s : Nat) (K : jK) (Q : jO → List jC → Prop) : Prop := match ins with
  | .iload k => jgi loc[k]? fun x => K nx loc (.int x :: st) h c s
  | .lload k => jgl loc[k]? fun x => K nx loc (.long x :: st) h c s
  | .aload k => jgr loc[k]? fun x => K nx loc (.ref x :: st) h c s
  | .istore k => j1i st fun x r => jfree loc k = true ∧ K nx (loc.set k (some (.int x))) r h c s
  | .astore k => j1r st fun x r => jfree loc k = true ∧ K nx (loc.set k (some (.ref x))) r h c s
  | .iinc k n => jgi loc[k]? fun x => jfree loc k = true ∧ K nx (loc.set k (some (.int (x + Int32.ofInt n)))) st h c s
  | .iconst n => K nx loc (.int (Int32.ofInt n) :: st) h c s
  | .bipush n => K nx loc (.int (Int8.ofInt n).toInt32 :: st) h c s
  | .sipush n => K nx loc (.int (Int16.ofInt n).toInt32 :: st) h c s
  | .lconst n => K nx loc (.long (Int64.ofNat n.val) :: st) h c s
  | .ldc2_w x => jso (jlong i x) fun v => K nx loc (.long v :: st) h c s
  | .iadd => j2i st fun x y r => K nx loc (.int (x + y) :: r) h c s
  | .isub => j2i st fun x y r => K nx loc (.int (x - y) :: r) h c s
  | .imul => j2i st fun x y r => K nx loc (.int (x * y) :: r) h c s
  | .iand => j2i st fun x y r => K nx loc (.int (x &&& y) :: r) h c s
  | .ior => j2i st fun x y r => K nx loc (.int (x ||| y) :: r) h c s
  | .ixor => j2i st fun x y r => K nx loc (.int (x ^^^ y) :: r) h c s
  | .ishl => j2i st fun x y r => K nx loc (.int (x <<< (y &&& 31)) :: r) h c s
  | .ishr => j2i st fun x y r => K nx loc (.int (x >>> (y &&& 31)) :: r) h c s
  | .idiv => j2i st fun x y r => ¬ y = 0 ∧ K nx loc (.int (x / y) :: r) h c s
  | .irem => j2i st fun x y r => ¬ y = 0 ∧ K nx loc (.int (x - x / y * y) :: r) h c s
  | .i2l => j1i st fun x r => K nx loc (.long x.toInt64 :: r) h c s
  | .l2i => j1l st fun x r => K nx loc (.int x.toInt32 :: r) h c s
  | .land => j2l st fun x y r => K nx loc (.long (x &&& y) :: r) h c s
  | .lor => j2l st fun x y r => K nx loc (.long (x ||| y) :: r) h c s
  | .lshl => jil st fun x y r => K nx loc (.long (x <<< (y.toInt64 &&& 63)) :: r) h c s
  | .lshr => jil st fun x y r => K nx loc (.long (x >>> (y.toInt64 &&& 63)) :: r) h c s
  | .lushr => jil st fun x y r => K nx loc (.long (x.toUInt64 >>> (y.toInt64.toUInt64 &&& Int64.toUInt64 63)).toInt64 :: r) h c s
  | .lcmp => j2l st fun x y r => K nx loc (.int (lg_cmp x y) :: r) h c s
  | .dup => j1r st fun a r => K nx loc (.ref a :: .ref a :: r) h c s
  | .dup2 => jia st fun a j r => K nx loc (.int j :: .ref a :: .int j :: .ref a :: r) h c s
  | .goto t => K t.toNat loc st h c s
  | .ifCond cd t => j1i st fun x r => (jcnd cd x 0 → K t.toNat loc r h c s) ∧ (¬ jcnd cd x 0 → K nx loc r h c s)
  | .if_icmp cd t => j2i st fun x y r => (jcnd cd x y → K t.toNat loc r h c s) ∧ (¬ jcnd cd x y → K nx loc r h c s)
  | .tableswitch d lo hi ts => j1i st fun x r => (∀ (k : Nat) (t : Int), ts.toList[k]? = some t → x.toInt = lo + k → K t.toNat loc r h c s) ∧ (x.toInt < lo ∨ hi < x.toInt → K d.toNat loc r h c s)
  | .getfield x => j1r st fun a r => jso (jfld i x) fun q => job h[a]? q.1 fun fs => jso fs[q.2]? fun v => K nx loc (v :: r) h c s
  | .putfield x => match st with
    | .int v :: .ref a :: r => jso (jfld i x) fun q => jfk q.1 q.2 = 0 ∧ job h[a]? q.1 fun fs => q.2 < fs.length ∧ K nx loc r (h.set a (.inr (q.1, fs.set q.2 (.int v)))) c s
    | .ref v :: .ref a :: r => jso (jfld i x) fun q => jfk q.1 q.2 = 1 ∧ (jn i).name = "<init>" ∧ jo i = q.1 ∧ job h[a]? q.1 fun fs => q.2 < fs.length ∧ K nx loc r (h.set a (.inr (q.1, fs.set q.2 (.ref v)))) c s
    | _ => False
  | .iaload => jia st fun a j r => (a = 9999 ∧ vp_in j E.2.2.2.2.2.1 ∧ K nx loc (.int (E.2.2.2.2.2.2 j.toNatClampNeg) :: r) h c s) ∨ (jar h[a]? 0 fun n f => vp_in j n ∧ K nx loc (.int (f j.toNatClampNeg) :: r) h c s)
  | .baload => jia st fun a j r => jar h[a]? 1 fun n f => vp_in j n ∧ K nx loc (.int (f j.toNatClampNeg) :: r) h c s
  | .laload => jia st fun a j r => jal h[a]? fun n f => vp_in j n ∧ K nx loc (.long (f j.toNatClampNeg) :: r) h c s
  | .iastore => jiia st fun a j x r => jar h[a]? 0 fun n f => vp_in j n ∧ K nx loc r (h.set a (.inl (0, n, .inl (upd f j.toNatClampNeg x)))) c s
  | .bastore => jiia st fun a j x r => jar h[a]? 1 fun n f => vp_in j n ∧ K nx loc r (h.set a (.inl (1, n, .inl (upd f j.toNatClampNeg (x &&& 1))))) c s
  | .lastore => jlia st fun a j x r => jal h[a]? fun n f => vp_in j n ∧ K nx loc r (h.set a (.inl (2, n, .inr (vp_updL f j.toNatClampNeg x)))) c s
  | .arraylength => j1r st fun a r => (a = 9999 ∧ K nx loc (.int (Int32.ofNat E.2.2.2.2.2.1) :: r) h c s) ∨ (jar h[a]? 0 fun n _ => K nx loc (.int (Int32.ofNat n) :: r) h c s)
  | .ireturn => match st with
    | [.int v] => (jr i = some .boolean → v &&& 1 = v) ∧ c ≤ jrc i ∧ s ≤ jrs i ∧ Q (.inl (some (.int v))) h
    | _ => False
  | .return_ => match st with
    | [] => c ≤ jrc i ∧ s ≤ jrs i ∧ Q (.inl none) h
    | _ => False
  | .invokevirtual x => jcall l E i pc x nx loc st h c s K Q [0]
  | .invokestatic x => jcall l E i pc x nx loc st h c s K Q [1, 4, 6]
  | .invokespecial x => match jobj i x with
    | true => j1r st fun _ r => jrest r = true ∧ 1 ≤ (jm i).frames ∧ 20 ≤ (jm i).locals ∧ K nx loc r h c s
    | false => jcall l E i pc x nx loc st h c s K Q [2, 5]
  | .new x => match jthr i pc with
    | some q => jrest st = true ∧ 6 ≤ (jm i).frames ∧ 90 ≤ (jm i).locals ∧ c + 1 ≤ (jm i).cells ∧ s + 6 ≤ (jm i).slots ∧ Q (.inr q.2.2.2.1) h
    | none => jso (jnew i x) fun k => jwf h.length loc st = true ∧ jwfh h.length h = true ∧ h.length < 9999 ∧ c + 1 ≤ (jm i).cells ∧ s + (jdef k).length ≤ (jm i).slots ∧ K nx loc (.ref h.length :: st) (h ++ [.inr (k, jdef k)]) (c + 1) (s + (jdef k).length)
  | .newarray t => j1i st fun n r => jwf h.length loc r = true ∧ jwfh h.length h = true ∧ h.length < 9999 ∧ ¬ n < 0 ∧ n.toNatClampNeg ≤ 100000 ∧ c + 1 ≤ (jm i).cells ∧ s + n.toNatClampNeg ≤ (jm i).slots ∧
      match t with
      | .int => K nx loc (.ref h.length :: r) (h ++ [.inl (0, n.toNatClampNeg, .inl fun _ => 0)]) (c + 1) (s + n.toNatClampNeg)
      | .boolean => K nx loc (.ref h.length :: r) (h ++ [.inl (1, n.toNatClampNeg, .inl fun _ => 0)]) (c + 1) (s + n.toNatClampNeg)
      | .long => K nx loc (.ref h.length :: r) (h ++ [.inl (2, n.toNatClampNeg, .inr fun _ => 0)]) (c + 1) (s + n.toNatClampNeg)
      | _ => False
  | _ => False
end
section
def jY (k f : Nat) : FieldType := (jYs.getD k (fun _ => .int)) f
def jrt : FieldType → Bool
  | .object _ => true
  | .array _ => true
  | _ => false
theorem jcl_facts {k : Nat} {r : vw_C} (h : jCl[k]? = some r) : (∀ f, f < r.2.2 → parseFieldDescriptor (r.2.1 f).2.2.1 = some (jY k f)) ∧ (∀ a, a < r.2.2 → ∀ b, b < r.2.2 → a ≠ b → (r.2.1 a).2.1 ≠ (r.2.1 b).2.1) ∧ (∀ f, f < r.2.2 → (r.2.1 f).2.2.2 = false → jY k f = .int) ∧ (∀ f, f < r.2.2 → (r.2.1 f).2.2.2 = true → jrt (jY k f) = true) ∧ (∀ f, f < r.2.2 → (r.2.1 f).1 = jcn k) ∧ r.1 = jcn k := by
  match k, h with
  | 0, h => cases h; exact ⟨by decide +kernel, by decide +kernel, by decide +kernel, by decide +kernel, by decide +kernel, by decide +kernel⟩
  | 1, h => cases h; exact ⟨by decide +kernel, by decide +kernel, by decide +kernel, by decide +kernel, by decide +kernel, by decide +kernel⟩
  | 2, h => cases h; exact ⟨by decide +kernel, by decide +kernel, by decide +kernel, by decide +kernel, by decide +kernel, by decide +kernel⟩
  | 3, h => cases h; exact ⟨by decide +kernel, by decide +kernel, by decide +kernel, by decide +kernel, by decide +kernel, by decide +kernel⟩
  | 4, h => cases h; exact ⟨by decide +kernel, by decide +kernel, by decide +kernel, by decide +kernel, by decide +kernel, by decide +kernel⟩
  | k + 5, h => simp [jCl] at h
theorem jfk_0 {k f : Nat} {r : vw_C} (h : jCl[k]? = some r) (hf : jfk k f = 0) : (r.2.1 f).2.2.2 = false := by
  unfold jfk at hf
  rw [h] at hf
  cases hb : (r.2.1 f).2.2.2 with
  | false => rfl
  | true => rw [if_pos (by simpa using hb)] at hf; cases hf
theorem jfk_1 {k f : Nat} {r : vw_C} (h : jCl[k]? = some r) (hf : jfk k f = 1) : (r.2.1 f).2.2.2 = true := by
  unfold jfk at hf
  rw [h] at hf
  cases hb : (r.2.1 f).2.2.2 with
  | true => rfl
  | false => rw [if_neg (by simp [hb])] at hf; cases hf
theorem jfld_ok {i x k f : Nat} (h : jfld i x = some (k, f)) : ∃ r : vw_C, jCl[k]? = some r ∧ f < r.2.2 ∧ Cond.fieldLink (jcn (jo i)) x (r.2.1 f).1 (r.2.1 f).2.1 (r.2.1 f).2.2.1 ∈ jGW ∧ ∀ w ∈ u_ws r.1 r.2.1 r.2.2, w ∈ jGW := by
  obtain ⟨a, h1, h2⟩ := jfind (f := fun a => a == (jo i, x)) (show (jFL.find? (fun q => q.1 == (jo i, x))).map (fun q => q.2) = some (k, f) from h)
  have ha : a = (jo i, x) := by simpa using h2
  subst ha
  have hn := jF_n _ h1
  have hw := jF_all _ (List.mem_map.mpr ⟨_, h1, rfl⟩)
  dsimp only at hn
  cases hr : jCl[k]? with
  | none => rw [hr] at hn; exact absurd hn (Nat.not_lt_zero _)
  | some r =>
    rw [hr] at hn
    refine ⟨r, rfl, hn, ?_, jlay r (List.mem_of_getElem? hr)⟩
    have e : jFw ((jo i, x), k, f) = Cond.fieldLink (jcn (jo i)) x (r.2.1 f).1 (r.2.1 f).2.1 (r.2.1 f).2.2.1 := by
      simp only [jFw, hr]
    rw [e] at hw
    exact hw
theorem jthr_ok {i pc : Nat} {q : Nat × Nat × Nat × String × String} (h : jthr i pc = some q) : ((i, pc), q) ∈ jXL := by
  obtain ⟨a, h1, h2⟩ := jfind (f := fun a => a == (i, pc)) (show (jXL.find? (fun q => q.1 == (i, pc))).map (fun q => q.2) = some q from h)
  have ha : a = (i, pc) := by simpa using h2
  subst ha
  exact h1
theorem jcal_ok {i x : Nat} {q : Nat × Nat} (h : jcal i x = some q) : ((jo i, x), q) ∈ jCL := by
  obtain ⟨a, h1, h2⟩ := jfind (f := fun a => a == (jo i, x)) (show (jCL.find? (fun q => q.1 == (jo i, x))).map (fun q => q.2) = some q from h)
  have ha : a = (jo i, x) := by simpa using h2
  subst ha
  exact h1
theorem jnew_ok {i x k : Nat} (h : jnew i x = some k) : ((jo i, x), k) ∈ jNL := by
  obtain ⟨a, h1, h2⟩ := jfind (f := fun a => a == (jo i, x)) (show (jNL.find? (fun q => q.1 == (jo i, x))).map (fun q => q.2) = some k from h)
  have ha : a = (jo i, x) := by simpa using h2
  subst ha
  exact h1
theorem jN_all : ∀ q ∈ jNL, jgood (Cond.classLink (jcn q.1.1) q.1.2 (jcn q.2)) = true ∧ jgood (Cond.instantiable (jcn q.2) (jdef q.2).length) = true ∧ jgood (Cond.initialized (jcn q.2)) = true ∧ q.2 < 5 := by decide +kernel
theorem jI_all : ∀ q ∈ jIL, jgood (Cond.methodLink (jcn q.1) q.2 objectInit) = true := by decide +kernel
theorem jI_o : jgood (Cond.instanceMethod objectInit) = true ∧ jgood (Cond.code objectInit ⟨#[0xb1]⟩ 1 none) = true := by decide +kernel
theorem jlong_ok {i x : Nat} {v : Int64} (h : jlong i x = some v) : Cond.constantLong (jcn (jo i)) x v ∈ jGW := by
  unfold jlong at h
  split at h
  · rename_i hq
    cases h
    rw [hq.1, hq.2]
    exact jgood_spec (by decide +kernel)
  · split at h
    · rename_i hq
      cases h
      rw [hq.1, hq.2]
      exact jgood_spec (by decide +kernel)
    · cases h
theorem jarr_ok : jgood (Cond.arrayClass .int) = true ∧ jgood (Cond.arrayClass .boolean) = true ∧ jgood (Cond.arrayClass .long) = true := by decide +kernel
end
section
section JS
variable {p : Program} {l : Launch} {e : Env} {R : Room} {s : State} {m : MethodId} {args : Array Value} {below : List Frame} {meth : Method} {c : Code} {H : Heap} {locs : List Loc} {cells slots : Nat}
theorem jret {E : jEnv} {Q : jO → List jC → Prop} {i : Nat} {al0 : Nat → Nat} {h0 : List jC} {g : JFrame} (k : W p l e R s m args below meth c H locs cells slots (MQ below (jQc E Q al0 h0) args s (jrc i) (jrs i) (jA E)) g) : W p l e R s m args below meth c H locs cells slots (jMQ E Q i al0 h0 below args s) g := by
  intro T hT X
  obtain ⟨t, a1, o, b1, b2, b3, b4⟩ := k T hT X
  exact ⟨t, a1, o, b1, b2, Or.inl ⟨b3, b4⟩⟩
end JS
set_option maxHeartbeats 4000000 in
theorem J_simple {l : Launch} {E : jEnv} {i pc : Nat} {raw : Instr} {len : Nat} {loc : List (Option Value)} {st : List Value} {h : List jC} {c s : Nat} {K : jK} {Q : jO → List jC → Prop}
    (hc : jcode i pc = some (raw, len)) (hj : jop l E i pc (jnorm pc raw) (pc + len) loc st h c s K Q) (hK : ∀ nx loc st h c s, K nx loc st h c s → GO l E i nx loc st h c s Q)
    (hn : match raw with | .invokevirtual _ | .invokestatic _ | .invokespecial _ | .new _ | .newarray _ => False | _ => True) : GO l E i pc loc st h c s Q := by
  intro p e S m args below meth cd C al0 h0 al H locs ls hE hH hS hl
  have go : ∀ {nx loc st h c s}, K nx loc st h c s → ∀ {H locs ls}, jExt al0 h0 al h → jHeap E al h H → va_S (jA E) S.heap H locs → lv_has ls (jl i) (jlv al loc) → W p l e (jm i) S m args below meth cd H locs c s (jMQ E Q i al0 h0 below args S) (F0 m nx ls (st.map (jt al))) :=
    fun {nx loc st h c s} hk {H locs ls} a1 a2 a3 a4 => hK nx loc st h c s hk p e S m args below meth cd C al0 h0 al H locs ls a1 a2 a3 a4
  obtain ⟨hx, hb, hml, hr, hown, hts, htab, hlk, hini, hB, hst⟩ := id C
  have hd := jdec hc
  have ck := jchk_of hc
  obtain ⟨hP, hD, hb9⟩ := id hH
  have hKs := hB.1
  cases raw with
  | iload_n n =>
    simp only [jchk, beq_iff_eq] at ck; subst ck
    obtain ⟨x, hg, hj⟩ := jgi_s hj
    exact lv_iload_n hx hb hd rfl (jlv_at hl hg) (go hj hE hH hS hl)
  | iload n =>
    simp only [jchk, beq_iff_eq] at ck; subst ck
    obtain ⟨x, hg, hj⟩ := jgi_s hj
    exact lv_iload hx hb hd (jlv_at hl hg) (go hj hE hH hS hl)
  | lload_n n =>
    simp only [jchk, beq_iff_eq] at ck; subst ck
    obtain ⟨x, hg, hj⟩ := jgl_s hj
    exact lv_lload_n hx hb hd rfl (jlv_at hl hg) (go hj hE hH hS hl)
  | lload n =>
    simp only [jchk, beq_iff_eq] at ck; subst ck
    obtain ⟨x, hg, hj⟩ := jgl_s hj
    exact lv_lload hx hb hd (jlv_at hl hg) (go hj hE hH hS hl)
  | aload_n n =>
    simp only [jchk, beq_iff_eq] at ck; subst ck
    obtain ⟨x, hg, hj⟩ := jgr_s hj
    exact lv_aload_n hx hb hd rfl (jlv_at hl hg) (go hj hE hH hS hl)
  | aload n =>
    simp only [jchk, beq_iff_eq] at ck; subst ck
    obtain ⟨x, hg, hj⟩ := jgr_s hj
    exact lv_aload hx hb hd (jlv_at hl hg) (go hj hE hH hS hl)
  | istore_n n =>
    simp only [jchk, Bool.and_eq_true, beq_iff_eq, decide_eq_true_eq] at ck; obtain ⟨ck, ck2⟩ := ck; subst ck
    obtain ⟨x, r, rfl, hf, hj⟩ := j1i_s hj
    exact lv_istore_n hx hb hd rfl hl ck2 rfl (fun ls' hl' => go hj hE hH hS (jlv_put (v := .int x) hf hl'))
  | istore n =>
    simp only [jchk, Bool.and_eq_true, beq_iff_eq, decide_eq_true_eq] at ck; obtain ⟨ck, ck2⟩ := ck; subst ck
    obtain ⟨x, r, rfl, hf, hj⟩ := j1i_s hj
    exact lv_istore hx hb hd hl ck2 rfl (fun ls' hl' => go hj hE hH hS (jlv_put (v := .int x) hf hl'))
  | astore_n n =>
    simp only [jchk, Bool.and_eq_true, beq_iff_eq, decide_eq_true_eq] at ck; obtain ⟨ck, ck2⟩ := ck; subst ck
    obtain ⟨x, r, rfl, hf, hj⟩ := j1r_s hj
    exact lv_astore_n hx hb hd rfl hl ck2 rfl (fun ls' hl' => go hj hE hH hS (jlv_put (v := .ref x) hf hl'))
  | astore n =>
    simp only [jchk, Bool.and_eq_true, beq_iff_eq, decide_eq_true_eq] at ck; obtain ⟨ck, ck2⟩ := ck; subst ck
    obtain ⟨x, r, rfl, hf, hj⟩ := j1r_s hj
    exact lv_astore hx hb hd hl ck2 rfl (fun ls' hl' => go hj hE hH hS (jlv_put (v := .ref x) hf hl'))
  | iinc k n =>
    simp only [jchk, Bool.and_eq_true, beq_iff_eq, decide_eq_true_eq] at ck; obtain ⟨ck, ck2⟩ := ck; subst ck
    obtain ⟨x, hg, hf, hj⟩ := jgi_s hj
    obtain ⟨q, hq⟩ := List.getElem?_of_mem (jlv_mem (al := al) hg)
    exact lv_iinc hx hb hd hl hq rfl ck2 rfl (fun ls' hl' => go hj hE hH hS (jlv_put (v := .int (x + Int32.ofInt n)) hf hl'))
  | iconst n =>
    simp only [jchk, beq_iff_eq] at ck; subst ck
    exact lv_iconst hx hb hd rfl (go hj hE hH hS hl)
  | bipush n =>
    simp only [jchk, beq_iff_eq] at ck; subst ck
    exact lv_bipush hx hb hd rfl (go hj hE hH hS hl)
  | sipush n =>
    simp only [jchk, beq_iff_eq] at ck; subst ck
    exact lv_sipush hx hb hd rfl (go hj hE hH hS hl)
  | lconst n =>
    simp only [jchk, beq_iff_eq] at ck; subst ck
    exact lv_lconst hx hb hd rfl (go hj hE hH hS hl)
  | ldc2_w n =>
    simp only [jchk, beq_iff_eq] at ck; subst ck
    obtain ⟨v, hv, hj⟩ := jso_s hj
    exact lv_ldc2 hx hb hown (hts _ (jlong_ok hv)) hd (go hj hE hH hS hl)
  | iadd =>
    simp only [jchk, beq_iff_eq] at ck; subst ck
    obtain ⟨x, y, r, rfl, hj⟩ := j2i_s hj
    exact lv_iadd hx hb hd (go hj hE hH hS hl)
  | isub =>
    simp only [jchk, beq_iff_eq] at ck; subst ck
    obtain ⟨x, y, r, rfl, hj⟩ := j2i_s hj
    exact lv_isub hx hb hd (go hj hE hH hS hl)
  | imul =>
    simp only [jchk, beq_iff_eq] at ck; subst ck
    obtain ⟨x, y, r, rfl, hj⟩ := j2i_s hj
    exact lv_imul hx hb hd (go hj hE hH hS hl)
  | iand =>
    simp only [jchk, beq_iff_eq] at ck; subst ck
    obtain ⟨x, y, r, rfl, hj⟩ := j2i_s hj
    exact lv_iand hx hb hd (go hj hE hH hS hl)
  | ior =>
    simp only [jchk, beq_iff_eq] at ck; subst ck
    obtain ⟨x, y, r, rfl, hj⟩ := j2i_s hj
    exact lv_ior hx hb hd (go hj hE hH hS hl)
  | ixor =>
    simp only [jchk, beq_iff_eq] at ck; subst ck
    obtain ⟨x, y, r, rfl, hj⟩ := j2i_s hj
    exact lv_ixor hx hb hd (go hj hE hH hS hl)
  | ishl =>
    simp only [jchk, beq_iff_eq] at ck; subst ck
    obtain ⟨x, y, r, rfl, hj⟩ := j2i_s hj
    exact lv_ishl hx hb hd (go hj hE hH hS hl)
  | ishr =>
    simp only [jchk, beq_iff_eq] at ck; subst ck
    obtain ⟨x, y, r, rfl, hj⟩ := j2i_s hj
    exact lv_ishr hx hb hd (go hj hE hH hS hl)
  | idiv =>
    simp only [jchk, beq_iff_eq] at ck; subst ck
    obtain ⟨x, y, r, rfl, hz, hj⟩ := j2i_s hj
    exact lv_idiv hx hb hd hz (go hj hE hH hS hl)
  | irem =>
    simp only [jchk, beq_iff_eq] at ck; subst ck
    obtain ⟨x, y, r, rfl, hz, hj⟩ := j2i_s hj
    exact lv_irem hx hb hd hz (go hj hE hH hS hl)
  | i2l =>
    simp only [jchk, beq_iff_eq] at ck; subst ck
    obtain ⟨x, r, rfl, hj⟩ := j1i_s hj
    exact lv_i2l hx hb hd rfl (go hj hE hH hS hl)
  | l2i =>
    simp only [jchk, beq_iff_eq] at ck; subst ck
    obtain ⟨x, r, rfl, hj⟩ := j1l_s hj
    exact lv_l2i hx hb hd rfl (go hj hE hH hS hl)
  | land =>
    simp only [jchk, beq_iff_eq] at ck; subst ck
    obtain ⟨x, y, r, rfl, hj⟩ := j2l_s hj
    exact lv_land hx hb hd (go hj hE hH hS hl)
  | lor =>
    simp only [jchk, beq_iff_eq] at ck; subst ck
    obtain ⟨x, y, r, rfl, hj⟩ := j2l_s hj
    exact lv_lor hx hb hd (go hj hE hH hS hl)
  | lshl =>
    simp only [jchk, beq_iff_eq] at ck; subst ck
    obtain ⟨x, y, r, rfl, hj⟩ := jil_s hj
    exact lv_lshl hx hb hd rfl (go hj hE hH hS hl)
  | lshr =>
    simp only [jchk, beq_iff_eq] at ck; subst ck
    obtain ⟨x, y, r, rfl, hj⟩ := jil_s hj
    exact lv_lshr hx hb hd rfl (go hj hE hH hS hl)
  | lushr =>
    simp only [jchk, beq_iff_eq] at ck; subst ck
    obtain ⟨x, y, r, rfl, hj⟩ := jil_s hj
    exact lv_lushr hx hb hd rfl (go hj hE hH hS hl)
  | lcmp =>
    simp only [jchk, beq_iff_eq] at ck; subst ck
    obtain ⟨x, y, r, rfl, hj⟩ := j2l_s hj
    exact W.lcmp hx hb hd (go hj hE hH hS hl)
  | dup =>
    simp only [jchk, beq_iff_eq] at ck; subst ck
    obtain ⟨a, r, rfl, hj⟩ := j1r_s hj
    exact lv_dup hx hb hd rfl (go hj hE hH hS hl)
  | dup2 =>
    simp only [jchk, beq_iff_eq] at ck; subst ck
    obtain ⟨a, j, r, rfl, hj⟩ := jia_s hj
    exact lv_dup2_11 hx hb hd rfl rfl (go hj hE hH hS hl)
  | goto o =>
    simp only [jchk, Bool.and_eq_true, beq_iff_eq, decide_eq_true_eq] at ck; obtain ⟨ck, ck2⟩ := ck; subst ck
    exact lv_goto (tgt := ((pc : Int) + o).toNat) hx hb hd (Int.toNat_of_nonneg ck2).symm (go hj hE hH hS hl)
  | ifCond cn o =>
    simp only [jchk, Bool.and_eq_true, beq_iff_eq, decide_eq_true_eq] at ck; obtain ⟨ck, ck2⟩ := ck; subst ck
    obtain ⟨x, r, rfl, hj1, hj2⟩ := j1i_s hj
    have ht : (pc : Int) + o = ((((pc : Int) + o).toNat : Nat) : Int) := (Int.toNat_of_nonneg ck2).symm
    cases cn with
    | eq => exact lv_if_eq (tgt := ((pc : Int) + o).toNat) hx hb hd ht (fun q => go (hj1 q) hE hH hS hl) (fun q => go (hj2 q) hE hH hS hl)
    | ne => exact lv_if_ne (tgt := ((pc : Int) + o).toNat) hx hb hd ht (fun q => go (hj1 q) hE hH hS hl) (fun q => go (hj2 (fun z => z q)) hE hH hS hl)
    | lt => exact lv_if_lt (tgt := ((pc : Int) + o).toNat) hx hb hd ht (fun q => go (hj1 q) hE hH hS hl) (fun q => go (hj2 q) hE hH hS hl)
    | ge => exact lv_if_ge (tgt := ((pc : Int) + o).toNat) hx hb hd ht (fun q => go (hj1 q) hE hH hS hl) (fun q => go (hj2 q) hE hH hS hl)
    | gt => exact lv_if_gt (tgt := ((pc : Int) + o).toNat) hx hb hd ht (fun q => go (hj1 q) hE hH hS hl) (fun q => go (hj2 q) hE hH hS hl)
    | le => exact lv_if_le (tgt := ((pc : Int) + o).toNat) hx hb hd ht (fun q => go (hj1 q) hE hH hS hl) (fun q => go (hj2 q) hE hH hS hl)
  | if_icmp cn o =>
    simp only [jchk, Bool.and_eq_true, beq_iff_eq, decide_eq_true_eq] at ck; obtain ⟨ck, ck2⟩ := ck; subst ck
    obtain ⟨x, y, r, rfl, hj1, hj2⟩ := j2i_s hj
    have ht : (pc : Int) + o = ((((pc : Int) + o).toNat : Nat) : Int) := (Int.toNat_of_nonneg ck2).symm
    cases cn with
    | eq => exact lv_icmp_eq (tgt := ((pc : Int) + o).toNat) hx hb hd ht (fun q => go (hj1 q) hE hH hS hl) (fun q => go (hj2 q) hE hH hS hl)
    | ne => exact lv_icmp_ne (tgt := ((pc : Int) + o).toNat) hx hb hd ht (fun q => go (hj1 q) hE hH hS hl) (fun q => go (hj2 (fun z => z q)) hE hH hS hl)
    | lt => exact lv_icmp_lt (tgt := ((pc : Int) + o).toNat) hx hb hd ht (fun q => go (hj1 q) hE hH hS hl) (fun q => go (hj2 q) hE hH hS hl)
    | ge => exact lv_icmp_ge (tgt := ((pc : Int) + o).toNat) hx hb hd ht (fun q => go (hj1 q) hE hH hS hl) (fun q => go (hj2 q) hE hH hS hl)
    | gt => exact lv_icmp_gt (tgt := ((pc : Int) + o).toNat) hx hb hd ht (fun q => go (hj1 q) hE hH hS hl) (fun q => go (hj2 q) hE hH hS hl)
    | le => exact lv_icmp_le (tgt := ((pc : Int) + o).toNat) hx hb hd ht (fun q => go (hj1 q) hE hH hS hl) (fun q => go (hj2 q) hE hH hS hl)
  | tableswitch d lo hi offs =>
    simp only [jchk, Bool.and_eq_true, beq_iff_eq, decide_eq_true_eq, List.all_eq_true] at ck
    obtain ⟨⟨⟨⟨⟨ck1, ck2⟩, ck3⟩, ck4⟩, ck5⟩, ck6⟩ := ck
    obtain ⟨x, r, rfl, hj1, hj2⟩ := j1i_s hj
    by_cases hin : x.toInt < lo ∨ hi < x.toInt
    · exact lv_tableOut (tgt := ((pc : Int) + d).toNat) hx hb hd hin (Int.toNat_of_nonneg ck1).symm (go (hj2 hin) hE hH hS hl)
    · have h1 : ¬ x.toInt < lo := fun z => hin (Or.inl z)
      have h2 : ¬ hi < x.toInt := fun z => hin (Or.inr z)
      obtain ⟨k, hk⟩ : ∃ k : Nat, x.toInt = lo + k := ⟨(x.toInt - lo).toNat, by omega⟩
      have hks : k < offs.size := by omega
      have ho : offs[(x.toInt - lo).toNat]? = some offs[k] := by
        rw [show (x.toInt - lo).toNat = k by omega]
        exact Array.getElem?_eq_getElem hks
      have hmem : offs[k] ∈ offs.toList := by simp
      refine lv_tableIn (tgt := ((pc : Int) + offs[k]).toNat) hx hb hd h1 h2 ho (Int.toNat_of_nonneg (ck2 _ hmem)).symm (go (hj1 k _ ?_ hk) hE hH hS hl)
      simp [hks]
  | getfield x =>
    simp only [jchk, beq_iff_eq] at ck; subst ck
    obtain ⟨a, r, rfl, hj⟩ := j1r_s hj
    obtain ⟨⟨k, f⟩, hq, hj⟩ := jso_s hj
    obtain ⟨fs, ho, hj⟩ := job_s hj
    obtain ⟨v, hv, hj⟩ := jso_s hj
    obtain ⟨w, hw1, hw2, hw3, hw4⟩ := jfld_ok hq
    exact va_get (D := jD E) (ci := k) (v := jt al v) (C := w.1) (T := w.2.1) (N := w.2.2) hx hb hts hw4 hown hKs hP a (jW_at ho) hw1 f hw2 (hts _ hw3) (fun _ h9 => h9) (by rw [List.getElem?_map, hv]; rfl) hd (go hj hE hH hS hl)
  | putfield x =>
    simp only [jchk, beq_iff_eq] at ck; subst ck
    simp only [jnorm, jop] at hj
    split at hj
    · rename_i v a r
      obtain ⟨⟨k, f⟩, hq, hkf, hj⟩ := jso_s hj
      obtain ⟨fs, ho, hlt, hj⟩ := job_s hj
      obtain ⟨w, hw1, hw2, hw3, hw4⟩ := jfld_ok hq
      obtain ⟨c1, c2, c3, c4, c5, c6⟩ := jcl_facts hw1
      have hfin := jfk_0 hw1 hkf
      refine va_put (D := jD E) (ci := k) (v := .int v) (ty := .int) (C := w.1) (T := w.2.1) (N := w.2.2) hx hb hts hw4 (jY k) c1 c2 hown hKs hP hD hS a (jW_at ho) hw1 f hw2 (hts _ hw3) (fun _ h9 => h9) hfin (by rw [c1 f hw2, c3 f hw2 hfin]) rfl rfl (by simpa using hlt) hd (fun H1 locs1 hP1 hD1 hS1 => ?_)
      have e1 : jW E.2.2.1 al 0 (h.set a (.inr (k, fs.set f (.int v)))) = (jW E.2.2.1 al 0 h).set a (al a, .inr (k, (fs.map (jt al)).set f (.int v))) := by
        rw [jW_set, Nat.zero_add]
        simp only [jE, List.map_set]
        rfl
      exact go hj (jExt_set hE) ⟨by rw [e1]; exact hP1, by rw [e1]; exact hD1, hb9⟩ hS1 hl
    · rename_i v a r
      obtain ⟨⟨k, f⟩, hq, hkf, hin1, hin2, hj⟩ := jso_s hj
      obtain ⟨fs, ho, hlt, hj⟩ := job_s hj
      obtain ⟨w, hw1, hw2, hw3, hw4⟩ := jfld_ok hq
      obtain ⟨c1, c2, c3, c4, c5, c6⟩ := jcl_facts hw1
      have hfin := jfk_1 hw1 hkf
      have hrt := c4 f hw2 hfin
      have hnf : narrow (jY k f) (.ref (al v)) = .ref (al v) ∧ fits (jY k f) (.ref (al v)) = true := by
        cases hy : jY k f with
        | object n => exact ⟨rfl, rfl⟩
        | array t => exact ⟨rfl, rfl⟩
        | _ => rw [hy] at hrt; cases hrt
      refine va_putF (D := jD E) (ci := k) (v := .ref (al v)) (ty := jY k f) (C := w.1) (T := w.2.1) (N := w.2.2) hx hb hts hw4 (jY k) c1 c2 hown hKs hP hD hS a (jW_at ho) hw1 f hw2 (hts _ hw3) (fun _ h9 => h9) hfin (hini hin1) (by rw [c5 f hw2, hin2]) (c1 f hw2) hnf.1 hnf.2 (by simpa using hlt) hd (fun H1 locs1 hP1 hD1 hS1 => ?_)
      have e1 : jW E.2.2.1 al 0 (h.set a (.inr (k, fs.set f (.ref v)))) = (jW E.2.2.1 al 0 h).set a (al a, .inr (k, (fs.map (jt al)).set f (.ref (al v)))) := by
        rw [jW_set, Nat.zero_add]
        simp only [jE, List.map_set]
        rfl
      exact go hj (jExt_set hE) ⟨by rw [e1]; exact hP1, by rw [e1]; exact hD1, hb9⟩ hS1 hl
    · exact hj.elim
  | iaload =>
    simp only [jchk, beq_iff_eq] at ck; subst ck
    obtain ⟨a, j, r, rfl, hj⟩ := jia_s hj
    rcases hj with ⟨rfl, hv, hj⟩ | hj
    · show W p l e (jm i) S m args below meth cd H locs c s _ (F0 m pc ls (.int j :: .ref (al 9999) :: r.map (jt al)))
      rw [hb9]
      exact va_sld hx hb hB.2.2.2.2.2.2.2.2.1 (by have := hB.2.2.2.2.2.2.2.2.2; omega) (Nat.not_le.mpr hB.2.2.2.2.2.2.2.2.2.2) hS hv hd (go hj hE hH hS hl)
    · obtain ⟨n, f, ho, hv, hj⟩ := jar_s hj
      exact va_iald hx hb hKs hP a 0 (jW_at ho) rfl hv hd (go hj hE hH hS hl)
  | baload =>
    simp only [jchk, beq_iff_eq] at ck; subst ck
    obtain ⟨a, j, r, rfl, hj⟩ := jia_s hj
    obtain ⟨n, f, ho, hv, hj⟩ := jar_s hj
    exact va_zald hx hb hKs hP a 1 (jW_at ho) rfl hv hd (go hj hE hH hS hl)
  | laload =>
    simp only [jchk, beq_iff_eq] at ck; subst ck
    obtain ⟨a, j, r, rfl, hj⟩ := jia_s hj
    obtain ⟨n, f, ho, hv, hj⟩ := jal_s hj
    exact va_lald hx hb hKs hP a 2 (jW_at ho) rfl hv hd (go hj hE hH hS hl)
  | iastore =>
    simp only [jchk, beq_iff_eq] at ck; subst ck
    obtain ⟨a, j, x, r, rfl, hj⟩ := jiia_s hj
    obtain ⟨n, f, ho, hv, hj⟩ := jar_s hj
    refine va_iast hx hb hKs hP hD hS a 0 (jW_at ho) rfl hv hd (fun H1 locs1 hP1 hD1 hS1 => ?_)
    have e1 : jW E.2.2.1 al 0 (h.set a (.inl (0, n, .inl (upd f j.toNatClampNeg x)))) = (jW E.2.2.1 al 0 h).set a (al a, .inl (E.2.2.1 0, n, .inl (upd f j.toNatClampNeg x))) := by
      rw [jW_set, Nat.zero_add]; rfl
    exact go hj (jExt_set hE) ⟨by rw [e1]; exact hP1, by rw [e1]; exact hD1, hb9⟩ hS1 hl
  | bastore =>
    simp only [jchk, beq_iff_eq] at ck; subst ck
    obtain ⟨a, j, x, r, rfl, hj⟩ := jiia_s hj
    obtain ⟨n, f, ho, hv, hj⟩ := jar_s hj
    refine va_zast hx hb hKs hP hD hS a 1 (jW_at ho) rfl hv hd (fun H1 locs1 hP1 hD1 hS1 => ?_)
    have e1 : jW E.2.2.1 al 0 (h.set a (.inl (1, n, .inl (upd f j.toNatClampNeg (x &&& 1))))) = (jW E.2.2.1 al 0 h).set a (al a, .inl (E.2.2.1 1, n, .inl (upd f j.toNatClampNeg (vp_nar .boolean x)))) := by
      rw [jW_set, Nat.zero_add]; rfl
    exact go hj (jExt_set hE) ⟨by rw [e1]; exact hP1, by rw [e1]; exact hD1, hb9⟩ hS1 hl
  | lastore =>
    simp only [jchk, beq_iff_eq] at ck; subst ck
    obtain ⟨a, j, x, r, rfl, hj⟩ := jlia_s hj
    obtain ⟨n, f, ho, hv, hj⟩ := jal_s hj
    refine va_last hx hb hKs hP hD hS a 2 (jW_at ho) rfl hv hd (fun H1 locs1 hP1 hD1 hS1 => ?_)
    have e1 : jW E.2.2.1 al 0 (h.set a (.inl (2, n, .inr (vp_updL f j.toNatClampNeg x)))) = (jW E.2.2.1 al 0 h).set a (al a, .inl (E.2.2.1 2, n, .inr (.inl (vp_updL f j.toNatClampNeg x)))) := by
      rw [jW_set, Nat.zero_add]; rfl
    exact go hj (jExt_set hE) ⟨by rw [e1]; exact hP1, by rw [e1]; exact hD1, hb9⟩ hS1 hl
  | arraylength =>
    simp only [jchk, beq_iff_eq] at ck; subst ck
    obtain ⟨a, r, rfl, hj⟩ := j1r_s hj
    rcases hj with ⟨h9, hj1⟩ | hj
    · subst h9
      show W p l e (jm i) S m args below meth cd H locs c s _ (F0 m pc ls (.ref (al 9999) :: r.map (jt al)))
      rw [hb9]
      exact va_slen hx hb hB.2.2.2.2.2.2.2.2.1 (by have := hB.2.2.2.2.2.2.2.2.2; omega) (Nat.not_le.mpr hB.2.2.2.2.2.2.2.2.2.2) hS hd (go hj1 hE hH hS hl)
    · obtain ⟨n, f, ho, hj⟩ := jar_s hj
      exact va_alen hx hb hKs hP a 0 (jW_at ho) (ty := .int) rfl rfl hd (go hj hE hH hS hl)
  | ireturn =>
    simp only [jchk, Bool.and_eq_true, Bool.or_eq_true, beq_iff_eq] at ck; obtain ⟨ck, ck2⟩ := ck; subst ck
    simp only [jnorm, jop] at hj
    split at hj
    · rename_i v
      obtain ⟨hv, h1, h2, hQ⟩ := hj
      refine W.widen h1 h2 (jret ?_)
      have hq : ∀ t : State, t.heap = H → S.WarmedH t.vm → jQc E Q al0 h0 args S (.returned (some (.int v))) t := fun t ht hW => ⟨some (.int v), al, h, rfl, hQ, hE, by rw [ht]; exact hH, hS.F ht⟩
      rcases ck2 with ck2 | ck2
      · exact W.iret hx hb (by rw [hr, ck2]) hq hS.2.2 hd hlk
      · refine W.zret (ty := .boolean) hx hb (by rw [hr, ck2]) ?_ hq hS.2.2 hd hlk
        show Value.int (v &&& 1) = .int v
        rw [hv ck2]
    · exact hj.elim
  | return_ =>
    simp only [jchk, Bool.and_eq_true, beq_iff_eq, Option.isNone_iff_eq_none] at ck; obtain ⟨ck, ck2⟩ := ck; subst ck
    simp only [jnorm, jop] at hj
    split at hj
    · obtain ⟨h1, h2, hQ⟩ := hj
      refine W.widen h1 h2 (jret ?_)
      exact W.vret hx hb (by rw [hr, ck2]) (fun t ht hW => ⟨none, al, h, rfl, hQ, hE, by rw [ht]; exact hH, hS.F ht⟩) hS.2.2 hd hlk
    · exact hj.elim
  | invokevirtual x => exact hn.elim
  | invokestatic x => exact hn.elim
  | invokespecial x => exact hn.elim
  | new x => exact hn.elim
  | newarray x => exact hn.elim
  | _ => exact hj.elim
end
section
/-! a walk of a method's body gives its contract -/
theorem jent_len : ∀ (al : Nat → Nat) (as : List Value), (lg_sl (as.map (jt al))).length = (jent as).length
  | al, [] => rfl
  | al, v :: r => by
    have ih := jent_len al r
    cases v <;> simp_all [lg_sl, jent, jt, Value.category]
theorem jent_mem : ∀ (al : Nat → Nat) (as : List Value) (n k : Nat) (v : Value), (k, v) ∈ jlist n (jent as) → (k, jt al v) ∈ lv_args n (as.map (jt al))
  | al, [], n, k, v, h => by simp [jent, jlist] at h
  | al, w :: r, n, k, v, h => by
    cases w with
    | long x =>
      simp only [jent, jlist, List.mem_cons] at h
      simp only [List.map_cons, lv_args, List.mem_cons]
      rcases h with h | h
      · left; cases h; rfl
      · right
        have := jent_mem al r (n + 1 + 1) k v h
        simpa [jt, Value.category] using this
    | int x =>
      simp only [jent, jlist, List.mem_cons] at h
      simp only [List.map_cons, lv_args, List.mem_cons]
      rcases h with h | h
      · left; cases h; rfl
      · right
        have := jent_mem al r (n + 1) k v h
        simpa [jt, Value.category] using this
    | ref x =>
      simp only [jent, jlist, List.mem_cons] at h
      simp only [List.map_cons, lv_args, List.mem_cons]
      rcases h with h | h
      · left; cases h; rfl
      · right
        have := jent_mem al r (n + 1) k v h
        simpa [jt, Value.category] using this
    | float x =>
      simp only [jent, jlist, List.mem_cons] at h
      simp only [List.map_cons, lv_args, List.mem_cons]
      rcases h with h | h
      · left; cases h; rfl
      · right
        have := jent_mem al r (n + 1) k v h
        simpa [jt, Value.category] using this
    | null =>
      simp only [jent, jlist, List.mem_cons] at h
      simp only [List.map_cons, lv_args, List.mem_cons]
      rcases h with h | h
      · left; cases h; rfl
      · right
        have := jent_mem al r (n + 1) k v h
        simpa [jt, Value.category] using this
    | retAddr x =>
      simp only [jent, jlist, List.mem_cons] at h
      simp only [List.map_cons, lv_args, List.mem_cons]
      rcases h with h | h
      · left; cases h; rfl
      · right
        have := jent_mem al r (n + 1) k v h
        simpa [jt, Value.category] using this
    | double x =>
      simp only [jent, jlist, List.mem_cons] at h
      simp only [List.map_cons, lv_args, List.mem_cons]
      rcases h with h | h
      · left; cases h; rfl
      · right
        have := jent_mem al r (n + 1 + 1) k v h
        simpa [jt, Value.category] using this
theorem jm_own : ∀ k, k < 119 → (jn k).cls = jcn (jo k) := by decide +kernel
theorem jlv_pad {al : Nat → Nat} {n : Nat} {as : List Value} {q : Nat × Value} (h : q ∈ jlv al (jpad n (jent as))) : q ∈ lv_args 0 (as.map (jt al)) := by
  obtain ⟨⟨k, v⟩, hm, rfl⟩ := List.mem_map.mp h
  refine jent_mem al as 0 k v ?_
  obtain ⟨j, h1, h2⟩ := (jlist_mem _ 0 (k, v)).mp hm
  refine (jlist_mem _ 0 (k, v)).mpr ⟨j, h1, ?_⟩
  unfold jpad at h2
  by_cases hj : j < (jent as).length
  · rwa [List.getElem?_append_left hj] at h2
  · rw [List.getElem?_append_right (by omega), List.getElem?_replicate] at h2
    split at h2 <;> cases h2
set_option maxHeartbeats 1000000 in
theorem J_met {l : Launch} {E : jEnv} {k : Nat} {as : List Value} {h : List jC} {Q : jO → List jC → Prop} (hg : GO l E k 0 (jpad (jl k) (jent as)) [] h 0 0 Q) (hk : k < 119) (hp : plainFor (jn k) = true) (hlen : (jent as).length ≤ jl k) (hst : l.stackTraces = false) (al : Nat → Nat) :
    jMet l (jn k) (jcw k :: jGW) (jm k) (va_Pc (as.map (jt al)) (fun U => jBase E U U.heap ∧ jHeap E al h U.heap)) (jQc E Q al h) (jXC E Q al h) (jrc k) (jrs k) (jA E) := by
  refine MetFree.of_bodySF (code := jb k) (maxLocals := jl k) (ret := jr k) hp ?_ ?_
  · intro args s m hpre hn
    have hw := atoms_spec (ws := jcw k :: jGW) hpre _ List.mem_cons_self
    unfold jcw at hw
    split at hw
    · obtain ⟨meth, c, h1, h2, h3, h4, h5, h6, -, -⟩ := Cond.code_spec hn hw
      exact ⟨meth, c, h1, h2, h3, h4, h5, h6⟩
    · obtain ⟨m9, meth, c, hn9, h1, h2, h3, h4, -, h5, h6, -⟩ := Cond.codeWith_spec hw
      cases hn.symm.trans hn9
      exact ⟨meth, c, h1, h2, h3, h4, h5, h6⟩
  · intro p e s m args below meth c s₁ B hml hP _
    obtain ⟨rfl, hB, hH⟩ := hP
    have hh0 : s₁.heap = s.heap := by rw [B.state]; rfl
    have hts0 := atoms_spec (ws := jcw k :: jGW) B.pre
    have htab : c.exceptionTable.toList = tableOf (jh k) := by
      have hw := hts0 _ List.mem_cons_self
      unfold jcw at hw
      split at hw
      · rename_i he
        obtain ⟨meth9, c9, h1, h2, -, -, -, -, h7, -⟩ := Cond.code_spec B.named hw
        cases Option.some.inj (h1.symm.trans B.method)
        cases Option.some.inj (h2.symm.trans (Stand.of_body B).code)
        rw [Array.isEmpty_iff.mp h7, List.isEmpty_iff.mp he]
        rfl
      · exact vx_table (x := jn k) B hw
    have C : jCtx l E k p s m (as.map (jt al)).toArray meth c := ⟨B.exec, B.bytes, hml, B.returns, by rw [← jm_own k hk]; exact findClass_of_methodNamed B.named, fun w hw => hts0 w (List.mem_cons_of_mem _ hw), htab, B.notSynchronized, fun hi => (name_of_methodNamed B.named B.method).1.trans hi, hB, hst⟩
    have hl := lv_entry (as.map (jt al)) (n := jl k) (by rw [jent_len]; exact hlen)
    have hl2 : lv_has _ (jl k) (jlv al (jpad (jl k) (jent as))) := ⟨hl.1, hl.2.1, fun q hq => hl.2.2 q (jlv_pad hq)⟩
    have K := hg p e s m (as.map (jt al)).toArray below meth c C al h al s.heap [] _ jExt_rf hH va_S.rf hl2
    obtain ⟨t, a1, o, b1, b2, b3⟩ := K s₁ hh0 (Stand.of_body B)
    refine ⟨t, o, ?_, b1, b2, b3⟩
    rw [lg_entry_eq]
    exact a1
end
section
theorem jcast_nc : ∀ a ∈ jCast, ∀ b ∈ jCast, b ≠ a → (a, b) ∈ jNcL := by decide +kernel
def jhf (pc : Nat) (X : String) (q : Nat × Nat × Nat × String) : Bool := q.1 ≤ pc && pc < q.2.1 && q.2.2.2 == X
theorem jhan_split {own X : String} {pc : Nat} : ∀ (A : List (Nat × Nat × Nat × Nat)) (B : List (Nat × Nat × Nat × String)) (b : Nat × Nat × Nat × String), A.length = B.length →
    (∀ q ∈ A.zip B, q.1.1 = q.2.1 ∧ q.1.2.1 = q.2.2.1 ∧ q.1.2.2.1 = q.2.2.2.1 ∧ q.1.2.2.2 ≠ 0 ∧ jgood (Cond.classLink own q.1.2.2.2 q.2.2.2.2) = true ∧ q.2.2.2.2 ∈ jCast) →
    B.find? (jhf pc X) = some b →
    ∃ (pre : List ExceptionTableEntry) (x : ExceptionTableEntry) (suf : List ExceptionTableEntry), tableOf A = pre ++ x :: suf ∧ x.handlerPc = b.2.2.1 ∧ covers x pc = true ∧ x.catchType ≠ 0 ∧ Cond.classLink own x.catchType X ∈ jGW ∧
      ∀ z ∈ pre, covers z pc = false ∨ (z.catchType ≠ 0 ∧ ∃ nm, Cond.classLink own z.catchType nm ∈ jGW ∧ nm ∈ jCast ∧ nm ≠ X)
  | [], [], b, _, _, hf => by cases hf
  | [], _ :: _, b, hl, _, _ => by simp at hl
  | _ :: _, [], b, hl, _, _ => by simp at hl
  | a :: A, c :: B, b, hl, hz, hf => by
    obtain ⟨e1, e2, e3, e4, e5, e6⟩ := hz (a, c) (by simp)
    dsimp only at e1 e2 e3 e4 e5 e6
    by_cases hc : jhf pc X c = true
    · rw [List.find?_cons_of_pos hc] at hf
      cases hf
      simp only [jhf, Bool.and_eq_true, decide_eq_true_eq, beq_iff_eq] at hc
      refine ⟨[], ⟨a.1, a.2.1, a.2.2.1, a.2.2.2⟩, tableOf A, rfl, e3, ?_, e4, ?_, fun z hz => by cases hz⟩
      · simp only [covers, Bool.and_eq_true, decide_eq_true_eq]
        omega
      · rw [← hc.2]; exact jgood_spec e5
    · rw [List.find?_cons_of_neg hc] at hf
      obtain ⟨pre, x, suf, h1, h2, h3, h4, h5, h6⟩ := jhan_split A B b (by simpa using hl) (fun q hq => hz q (by simp [hq])) hf
      refine ⟨⟨a.1, a.2.1, a.2.2.1, a.2.2.2⟩ :: pre, x, suf, ?_, h2, h3, h4, h5, fun z hz => ?_⟩
      · show _ :: tableOf A = _; rw [h1]; rfl
      · rcases List.mem_cons.mp hz with rfl | hz
        · by_cases hcov : a.1 ≤ pc ∧ pc < a.2.1
          · right
            refine ⟨e4, c.2.2.2, jgood_spec e5, e6, fun e => hc ?_⟩
            simp only [jhf, Bool.and_eq_true, decide_eq_true_eq, beq_iff_eq]
            exact ⟨by omega, e⟩
          · left
            simp only [covers, Bool.and_eq_false_iff, decide_eq_false_iff_not]
            omega
        · exact h6 z hz
theorem jwfv_eq {n : Nat} {al al' : Nat → Nat} {v : Value} (h : jwfv n v = true) (ha : ∀ k, k < n → al' k = al k) (h9 : al' 9999 = al 9999) : jt al' v = jt al v := by
  cases v with
  | ref k =>
    simp only [jwfv, Bool.or_eq_true, decide_eq_true_eq, beq_iff_eq] at h
    rcases h with h | h
    · show Value.ref (al' k) = .ref (al k); rw [ha k h]
    · subst h; show Value.ref (al' 9999) = .ref (al 9999); rw [h9]
  | _ => rfl
theorem jwf_eq {n : Nat} {loc : List (Option Value)} {r : List Value} {al al' : Nat → Nat} (h : jwf n loc r = true) (ha : ∀ k, k < n → al' k = al k) (h9 : al' 9999 = al 9999) : jlv al' loc = jlv al loc ∧ r.map (jt al') = r.map (jt al) := by
  simp only [jwf, Bool.and_eq_true, List.all_eq_true] at h
  refine ⟨List.map_congr_left fun q hq => ?_, List.map_congr_left fun v hv => jwfv_eq (h.2 v hv) ha h9⟩
  obtain ⟨j, -, hj⟩ := (jlist_mem loc 0 q).mp hq
  have := h.1 _ (List.mem_of_getElem? hj)
  rw [jwfv_eq (n := n) (v := q.2) this ha h9]
theorem jgood_ws {k : Nat} (hk : jcw k ∈ jGW) : GoodIn jGW (jcw k :: jGW) := fun w hw => by
  rcases List.mem_cons.mp hw with rfl | hw
  · exact jGW_self _ hk
  · exact jGW_self _ hw
set_option maxHeartbeats 1000000 in
theorem J_core {l : Launch} {E : jEnv} {i pc k : Nat} {loc : List (Option Value)} {st as r : List Value} {h : List jC} {c s : Nat} {K : jK} {Q : jO → List jC → Prop}
    {p : Program} {e : Env} {S : State} {m : MethodId} {args : Array Value} {below : List Frame} {meth : Method} {cd : Code} (C : jCtx l E i p S m args meth cd)
    {al0 : Nat → Nat} {h0 : List jC} {al : Nat → Nat} {H : Heap} {locs : List Loc} {ls : Array Slot} (hE : jExt al0 h0 al h) (hH : jHeap E al h H) (hS : va_S (jA E) S.heap H locs) (hl : lv_has ls (jl i) (jlv al loc))
    (hi : i < 119) (hk : k < 119) (hw : jcw k ∈ jGW) (hwi : Cond.initialized (jn k).cls ∈ jGW) (hp : plainFor (jn k) = true)
    (hI : jInv p l e (jm i) S m args below meth cd H locs c s (F0 m pc ls (st.map (jt al))) (r.map (jt al)) (jn k) (as.map (jt al)).toArray)
    (hr : jrest r = true) (hf : jfit i k c s = true) (hlen : (jent as).length ≤ jl k) (hg : GO l E k 0 (jpad (jl k) (jent as)) [] h 0 0 (jback i pc (pc + 3) k loc r h c s K Q))
    (hK : ∀ nx loc st h c s, K nx loc st h c s → GO l E i nx loc st h c s Q) :
    W p l e (jm i) S m args below meth cd H locs c s (jMQ E Q i al0 h0 below args S) (F0 m pc ls (st.map (jt al))) := by
  obtain ⟨hx, hb, hml, hrt, hown, hts, htab, hlk, hini, hB, hst⟩ := id C
  simp only [jfit, Bool.and_eq_true, decide_eq_true_eq] at hf
  obtain ⟨⟨⟨f1, f2⟩, f3⟩, f4⟩ := hf
  have hws := pay_in hts (jgood_ws hw)
  have hA : ∀ q, q < H.size → jA E q → jA E q := fun _ _ h => h
  have hal : ∀ {al' : Nat → Nat} {h' : List jC} {H' : Heap}, jExt al h al' h' → jHeap E al' h' H' → (h'.length = h.length ∨ jwf h.length loc r = true) → jlv al' loc = jlv al loc ∧ r.map (jt al') = r.map (jt al) := by
    intro al' h' H' x1 x2 x3
    rcases x3 with x3 | x3
    · rw [x1.2.2 x3]; exact ⟨rfl, rfl⟩
    · exact jwf_eq x3 x1.2.1 (x2.2.2.trans hH.2.2.symm)
  refine jRun (maxL := jl k) hI (J_met hg hk hp hlen hst al) ?_ f1 f2 hws ?_ (hts _ hwi) rfl (hl.1.trans hml.symm) ?_ ⟨f3, f4⟩ ?_ ?_ ?_
  · intro a U g mk hq
    obtain ⟨q0, q1, q2⟩ := hq
    exact ⟨q0, jBase_moved (s := U) (State.WarmedH.refl U) (Nat.le_refl _) (fun _ _ _ => rfl) q1, q2⟩
  · intro U mk hW hn
    have hu := hws _ List.mem_cons_self #[] U hW
    unfold jcw at hu
    split at hu
    · obtain ⟨meth9, c9, h1, h2, -, h4, -⟩ := Cond.code_spec hn hu
      exact ⟨meth9, c9, h1, h2, h4⟩
    · obtain ⟨m9, meth9, c9, hn9, h1, h2, -, h4, -⟩ := Cond.codeWith_spec hu
      cases hn.symm.trans hn9
      exact ⟨meth9, c9, h1, h2, h4⟩
  · rw [jt_sum]
    exact lv_room (jrest_s hr)
  · intro U hU hW
    refine ⟨rfl, ?_, by rw [hU]; exact hH⟩
    rw [hU]
    exact jBase_moved hW hS.1 hS.2.1 hB
  · intro v st₀ t T' L h00 X' hL e1 e2 hq
    obtain ⟨v', al', h', ev, hq, x1, x2, hF⟩ := hq
    cases ev
    obtain ⟨hwf, hq⟩ := hq
    have x2' : jHeap E al' h' T'.heap := by rw [e1]; exact x2
    obtain ⟨a1, a2⟩ := hal x1 x2' hwf
    obtain ⟨-, -, k3⟩ := vx_keep h00 e1 hS hA (fun _ h => h) hL hF
    obtain ⟨t9, b1, b2⟩ := hK _ _ _ _ _ _ hq p e S m args below meth cd C al0 h0 al' T'.heap (locs ++ L) ls (jExt_tr hE x1) x2' k3 (by rw [a1]; exact hl) T' rfl X'
    refine ⟨t9, ?_, b2⟩
    have e9 : (v'.toList ++ r).map (jt al') = (v'.map (jt al')).toList ++ r.map (jt al) := by
      rw [List.map_append, a2]
      cases v' <;> rfl
    rw [e9] at b1
    exact b1
  · intro q st₀ t T' L X ce h00 X' hL e1 e2 hq hce hcv hcl
    obtain ⟨al', h', hXc, hq, x1, x2, hF⟩ := hq
    obtain ⟨hwf, hq⟩ := hq
    have x2' : jHeap E al' h' T'.heap := by rw [e1]; exact x2
    obtain ⟨a1, a2⟩ := hal x1 x2' hwf
    obtain ⟨-, -, k3⟩ := vx_keep h00 e1 hS hA (fun _ h => h) hL hF
    split at hq
    · rename_i q9 hq9
      obtain ⟨⟨ins, nx⟩, hz, hq⟩ := jso_s hq
      dsimp only at hq
      split at hq
      · rename_i j
        obtain ⟨hfr, hq⟩ := hq
        have hq9' : ((jHC.getD i []).find? (jhf pc X)).map (fun q => q.2.2.1) = some q9 := hq9
        cases hfi : (jHC.getD i []).find? (jhf pc X) with
        | none => rw [hfi] at hq9'; cases hq9'
        | some b =>
          have hb9 : b.2.2.1 = q9 := by rw [hfi] at hq9'; exact Option.some.inj hq9'
          obtain ⟨pre, x, suf, s1, s2, s3, s4, s5, s6⟩ := jhan_split (own := jcn (jo i)) (jh i) (jHC.getD i []) b (jHl i hi) (jHk i hi) hfi
          have G : W p l e (jm i) S m args below meth cd T'.heap (locs ++ L) (c + (jm k).cells) (s + (jm k).slots) (jMQ E Q i al0 h0 below args S) (F0 m x.handlerPc ls [.ref q]) := by
            rw [s2, hb9]
            cases hcc : jcode i q9 with
            | none => simp [jcd, hcc] at hz
            | some raw =>
              obtain ⟨raw, len⟩ := raw
              have hd := jdec hcc
              have ck := jchk_of hcc
              simp only [jcd, hcc, Option.map_some, Option.some.injEq, Prod.mk.injEq] at hz
              obtain ⟨hz1, hz2⟩ := hz
              subst hz2
              have fin : ∀ ls', lv_has ls' (jl i) (jlv al' (loc.set j none)) → W p l e (jm i) S m args below meth cd T'.heap (locs ++ L) (c + (jm k).cells) (s + (jm k).slots) (jMQ E Q i al0 h0 below args S) (F0 m (q9 + len) ls' []) := fun ls' hl' => hK _ _ _ _ _ _ hq p e S m args below meth cd C al0 h0 al' T'.heap (locs ++ L) ls' (jExt_tr hE x1) x2' k3 hl'
              have hl2 : lv_has ls (jl i) (jlv al' loc) := by rw [a1]; exact hl
              cases raw <;> simp only [jnorm, reduceCtorEq] at hz1
              · cases hz1
                simp only [jchk, Bool.and_eq_true, beq_iff_eq, decide_eq_true_eq] at ck; obtain ⟨ck, ck2⟩ := ck; subst ck
                exact lv_astore hx hb hd hl2 ck2 rfl (fun ls' hl' => fin ls' (jlv_drop hfr hl'))
              · cases hz1
                simp only [jchk, Bool.and_eq_true, beq_iff_eq, decide_eq_true_eq] at ck; obtain ⟨ck, ck2⟩ := ck; subst ck
                exact lv_astore_n hx hb hd rfl hl2 ck2 rfl (fun ls' hl' => fin ls' (jlv_drop hfr hl'))
          refine vx_catch (own := jcn (jo i)) (name := X) (E := X) (ce := ce) hown pre x suf (htab.trans s1) (fun z hz => ?_) s3 s4 (hts _ s5) (va_Nw.use rfl (hB.2.2.2.2.2.2.2.1 X hXc)) (by rw [e1]; exact hce) hcv hcl G T' rfl X'
          rcases s6 z hz with g1 | ⟨g1, nm, g2, g3, g4⟩
          · exact Or.inl g1
          · exact Or.inr ⟨g1, nm, hts _ g2, hB.2.2.2.2.1 (X, nm) (jcast_nc X hXc nm g3 g4)⟩
      · exact hq.elim
    · obtain ⟨hemp, hq⟩ := hq
      have hout : ∀ x ∈ cd.exceptionTable.toList, covers x pc = false := by
        intro x hx9
        rw [htab, List.isEmpty_iff.mp hemp] at hx9
        cases hx9
      obtain ⟨st1, hrun, hend, hW, hsm⟩ := X'.leaveThrown q (g := F0 m pc ls (r.map (jt al))) rfl rfl rfl hout hlk
      have hcell9 : (T'.setFrames (.throwing q :: below)).heap[q]? = some ce := by
        show T'.heap[q]? = some ce
        rw [e1]; exact hce
      refine ⟨_, st1, .threw q, hrun, hend, Or.inr ⟨q, rfl, X, ce, locs ++ L, ⟨al', h', hXc, hq, jExt_tr hE x1, x2', ?_⟩, hcell9, hcv, hcl, hW, hsm.mono f3 f4, k3.2.2⟩⟩
      exact k3.F rfl
end
section
theorem jC_k : ∀ q ∈ jCL, q.2.2 < 119 ∧ (q.2.1 = 0 → jo q.2.2 < 5) := by decide +kernel
theorem jcw_code {k : Nat} (h : (jh k).isEmpty = true) : jcw k = .code (jn k) (jb k) (jl k) (jr k) := by unfold jcw; rw [if_pos h]
theorem jcw_with {k : Nat} (h : (jh k).isEmpty = false) : jcw k = .codeWith (jn k) (jb k) (jl k) (jr k) (jh k) := by unfold jcw; rw [if_neg (by rw [h]; decide)]
theorem jlen_of {k n : Nat} (hd : (parseMethodDescriptor (jn k).desc).map (fun d => d.parameters.length) = some (jp k)) (hn : n = jp k) : ∀ sig, parseMethodDescriptor (jn k).desc = some sig → n = sig.parameters.length := by
  intro sig h
  rw [h] at hd
  exact hn.trans (Option.some.inj hd).symm
set_option maxHeartbeats 1000000 in
theorem J_virt {l : Launch} {E : jEnv} {i pc x : Nat} {loc : List (Option Value)} {st : List Value} {h : List jC} {c s : Nat} {K : jK} {Q : jO → List jC → Prop}
    (hc : jcode i pc = some (.invokevirtual x, 3)) (hj : jcall l E i pc x (pc + 3) loc st h c s K Q [0]) (hK : ∀ nx loc st h c s, K nx loc st h c s → GO l E i nx loc st h c s Q) : GO l E i pc loc st h c s Q := by
  intro p e S m args below meth cd C al0 h0 al H locs ls hE hH hS hl
  obtain ⟨hx, hb, hml, hrt, hown, hts, htab, hlk, hini, hB, hst⟩ := id C
  have hd := jdec hc
  obtain ⟨⟨kind, k⟩, hq, hkin, hj⟩ := jso_s hj
  obtain ⟨⟨as, r⟩, ht, hr, hf, hlen, hv, -, hg⟩ := jso_s hj
  have mem := jcal_ok hq
  have hk0 : kind = 0 := by simpa using hkin
  subst hk0
  obtain ⟨d1, d2, d3, d4⟩ := jC_p _ mem
  obtain ⟨k1, k2⟩ := jC_k _ mem
  have wd := jC_all _ mem
  simp only [jCws] at wd
  dsimp only at d1 d2 d3 d4 k1 k2 hr hf hlen hv hg
  obtain ⟨bs, e1, e2, e3⟩ := jtake_s _ _ _ _ _ ht
  rw [List.append_nil] at e3
  subst e3
  have hemp : (jh k).isEmpty = true := by
    rcases jC_h _ mem with ⟨q, -⟩ | ⟨-, -, q⟩
    · cases q
    · exact q
  obtain ⟨v0, hv0, hv9⟩ := jso_s (hv rfl)
  cases as with
  | nil => cases hv0
  | cons w ps =>
    cases hv0
    split at hv9
    · rename_i b
      obtain ⟨fs, ho, -⟩ := job_s hv9
      have hcl := k2 rfl
      have hcl2 : jCl[jo k]? = some (jCl[jo k]'(by simpa using hcl)) := List.getElem?_eq_getElem _
      obtain ⟨cell, g1, g2, g3⟩ := va_recv hB.1 hH.1 hcl2 (jW_at ho)
      rw [(jcl_facts hcl2).2.2.2.2.2, ← jm_own k k1] at g3
      have w1 : Cond.methodLink (jcn (jo i)) x (jn k) ∈ jGW := wd _ List.mem_cons_self
      have w2 : Cond.instanceMethod (jn k) ∈ jGW := wd _ (List.mem_cons_of_mem _ List.mem_cons_self)
      have w3 : Cond.selects (jn k).cls (jn k) (jn k) ∈ jGW := wd _ (List.mem_cons_of_mem _ (List.mem_cons_of_mem _ List.mem_cons_self))
      have w4 : Cond.initialized (jn k).cls ∈ jGW := wd _ (List.mem_cons_of_mem _ (List.mem_cons_of_mem _ (List.mem_cons_of_mem _ List.mem_cons_self)))
      have w5 : jcw k ∈ jGW := wd _ (List.mem_cons_of_mem _ (List.mem_cons_of_mem _ (List.mem_cons_of_mem _ (List.mem_cons_of_mem _ List.mem_cons_self))))
      have hcode : (Cond.code (jn k) (jb k) (jl k) (jr k)).before args S = true := by
        rw [← jcw_code hemp]; exact hts _ w5
      refine J_core (as := .ref b :: ps) (st := st) (r := r) C hE hH hS hl (jlt hc) k1 w5 w4 d4 ?_ hr hf hlen hg hK
      have hps : ps.length = jp k := by simp at e1; exact e1
      have := jInvV (p := p) (l := l) (e := e) (R := jm i) (below := below) (meth := meth) (locs := locs) (cells := c) (slots := s) (H := H) (C := (jn k).cls) (y := jn k) (b := al b) (g := F0 m pc ls (st.map (jt al))) (argsL := ps.map (jt al)) (rest := r.map (jt al)) hx hown (hts _ w1) (hts _ w2) (hts _ w3) hcode ⟨d2, d3⟩ g1 g2 g3 rfl
        (jlen_of d1 (by rw [List.length_map]; exact hps)) (by rw [e2]; simp [jt]) (by rw [hb]; exact hd)
      exact this
    · exact hv9.elim
set_option maxHeartbeats 1000000 in
theorem J_stat {l : Launch} {E : jEnv} {i pc x : Nat} {loc : List (Option Value)} {st : List Value} {h : List jC} {c s : Nat} {K : jK} {Q : jO → List jC → Prop}
    (hc : jcode i pc = some (.invokestatic x, 3)) (hj : jcall l E i pc x (pc + 3) loc st h c s K Q [1, 4, 6]) (hK : ∀ nx loc st h c s, K nx loc st h c s → GO l E i nx loc st h c s Q) : GO l E i pc loc st h c s Q := by
  intro p e S m args below meth cd C al0 h0 al H locs ls hE hH hS hl
  obtain ⟨hx, hb, hml, hrt, hown, hts, htab, hlk, hini, hB, hst⟩ := id C
  have hd := jdec hc
  obtain ⟨⟨kind, k⟩, hq, hkin, hj⟩ := jso_s hj
  obtain ⟨⟨as, r⟩, ht, hr, hf, hlen, -, -, hg⟩ := jso_s hj
  have mem := jcal_ok hq
  obtain ⟨d1, d2, d3, d4⟩ := jC_p _ mem
  obtain ⟨k1, k2⟩ := jC_k _ mem
  have wd := jC_all _ mem
  have hh := jC_h _ mem
  have hn := jC_n _ mem
  dsimp only at d1 d2 d3 d4 k1 k2 hr hf hlen hg hh hn ht
  have hkin : kind = 1 ∨ kind = 4 ∨ kind = 6 := by simpa using hkin
  have hn0 : jp k + (if kind = 1 ∨ kind = 4 ∨ kind = 6 then 0 else 1) = jp k := by rw [if_pos hkin]; rfl
  rw [hn0] at ht
  obtain ⟨bs, e1, e2, e3⟩ := jtake_s _ _ _ _ _ ht
  rw [List.append_nil] at e3
  subst e3
  have hla := jlen_of d1 (show (as.map (jt al)).length = jp k by rw [List.length_map]; exact e1)
  have hstk : (F0 m pc ls (st.map (jt al))).stack = (as.map (jt al)).reverse ++ r.map (jt al) := by
    show st.map (jt al) = _
    rw [e2]; simp
  have hdg : decode cd.code (F0 m pc ls (st.map (jt al))).pc = .ok (.invokestatic x, 3) := by rw [hb]; exact hd
  rcases hkin with rfl | rfl | rfl
  · simp only [jCws] at wd
    have w1 : Cond.methodLink (jcn (jo i)) x (jn k) ∈ jGW := wd _ List.mem_cons_self
    have w2 : Cond.static (jn k) ∈ jGW := wd _ (List.mem_cons_of_mem _ List.mem_cons_self)
    have w3 : Cond.initialized (jn k).cls ∈ jGW := wd _ (List.mem_cons_of_mem _ (List.mem_cons_of_mem _ List.mem_cons_self))
    have w4 : jcw k ∈ jGW := wd _ (List.mem_cons_of_mem _ (List.mem_cons_of_mem _ (List.mem_cons_of_mem _ List.mem_cons_self)))
    have hemp : (jh k).isEmpty = true := by
      rcases hh with ⟨q, -⟩ | ⟨-, -, q⟩
      · cases q
      · exact q
    have hcode : (Cond.code (jn k) (jb k) (jl k) (jr k)).before args S = true := by
      rw [← jcw_code hemp]; exact hts _ w4
    exact J_core (as := as) (st := st) (r := r) C hE hH hS hl (jlt hc) k1 w4 w3 d4 (jInvS hx hown (hts _ w1) (hts _ w2) (hts _ w3) hcode ⟨d2, d3⟩ rfl hla hstk hdg) hr hf hlen hg hK
  · simp only [jCws] at wd
    have w2 : Cond.static (jn k) ∈ jGW := wd _ List.mem_cons_self
    have w3 : Cond.initialized (jn k).cls ∈ jGW := wd _ (List.mem_cons_of_mem _ List.mem_cons_self)
    have w4 : jcw k ∈ jGW := wd _ (List.mem_cons_of_mem _ (List.mem_cons_of_mem _ List.mem_cons_self))
    have hemp : (jh k).isEmpty = true := by
      rcases hh with ⟨q, -⟩ | ⟨-, -, q⟩
      · cases q
      · exact q
    have hcode : (Cond.code (jn k) (jb k) (jl k) (jr k)).before args S = true := by
      rw [← jcw_code hemp]; exact hts _ w4
    exact J_core (as := as) (st := st) (r := r) C hE hH hS hl (jlt hc) k1 w4 w3 d4 (jInvSN hx hown (va_Nw.use rfl (hB.2.2.2.2.2.1 _ (hn (Or.inl rfl)))) (hts _ w2) (hts _ w3) hcode ⟨d2, d3⟩ rfl hla hstk hdg) hr hf hlen hg hK
  · simp only [jCws] at wd
    have w1 : Cond.methodLink (jcn (jo i)) x (jn k) ∈ jGW := wd _ List.mem_cons_self
    have w2 : Cond.static (jn k) ∈ jGW := wd _ (List.mem_cons_of_mem _ List.mem_cons_self)
    have w3 : Cond.initialized (jn k).cls ∈ jGW := wd _ (List.mem_cons_of_mem _ (List.mem_cons_of_mem _ List.mem_cons_self))
    have w4 : jcw k ∈ jGW := wd _ (List.mem_cons_of_mem _ (List.mem_cons_of_mem _ (List.mem_cons_of_mem _ List.mem_cons_self)))
    have hemp : (jh k).isEmpty = false := by
      rcases hh with ⟨-, q⟩ | ⟨q, -, -⟩
      · exact q
      · exact absurd q (by decide)
    have hcode : (Cond.codeWith (jn k) (jb k) (jl k) (jr k) (jh k)).before args S = true := by
      rw [← jcw_with hemp]; exact hts _ w4
    exact J_core (as := as) (st := st) (r := r) C hE hH hS hl (jlt hc) k1 w4 w3 d4 (jInvSX hx hown (hts _ w1) (hts _ w2) (hts _ w3) hcode ⟨d2, d3⟩ rfl hla hstk hdg) hr hf hlen hg hK
set_option maxHeartbeats 1000000 in
theorem J_spec {l : Launch} {E : jEnv} {i pc x : Nat} {loc : List (Option Value)} {st : List Value} {h : List jC} {c s : Nat} {K : jK} {Q : jO → List jC → Prop}
    (hc : jcode i pc = some (.invokespecial x, 3)) (hj : jcall l E i pc x (pc + 3) loc st h c s K Q [2, 5]) (hK : ∀ nx loc st h c s, K nx loc st h c s → GO l E i nx loc st h c s Q) : GO l E i pc loc st h c s Q := by
  intro p e S m args below meth cd C al0 h0 al H locs ls hE hH hS hl
  obtain ⟨hx, hb, hml, hrt, hown, hts, htab, hlk, hini, hB, hst⟩ := id C
  have hd := jdec hc
  obtain ⟨⟨kind, k⟩, hq, hkin, hj⟩ := jso_s hj
  obtain ⟨⟨as, r⟩, ht, hr, hf, hlen, -, hv, hg⟩ := jso_s hj
  have mem := jcal_ok hq
  obtain ⟨d1, d2, d3, d4⟩ := jC_p _ mem
  obtain ⟨k1, k2⟩ := jC_k _ mem
  have wd := jC_all _ mem
  have hh := jC_h _ mem
  have hn := jC_n _ mem
  have hi9 := jC_i _ mem
  dsimp only at d1 d2 d3 d4 k1 k2 hr hf hlen hg hh hn hi9 ht hv
  have hkin : kind = 2 ∨ kind = 5 := by simpa using hkin
  obtain ⟨hnm, hret⟩ := hi9 hkin
  have hn0 : jp k + (if kind = 1 ∨ kind = 4 ∨ kind = 6 then 0 else 1) = jp k + 1 := by
    rw [if_neg]
    rcases hkin with rfl | rfl <;> decide
  rw [hn0] at ht
  obtain ⟨bs, e1, e2, e3⟩ := jtake_s _ _ _ _ _ ht
  rw [List.append_nil] at e3
  subst e3
  obtain ⟨v0, hv0, hv9⟩ := jso_s (hv hkin)
  cases as with
  | nil => cases hv0
  | cons w ps =>
    cases hv0
    split at hv9
    · rename_i b
      have hps : ps.length = jp k := by simp at e1; exact e1
      have hla := jlen_of d1 (show (ps.map (jt al)).length = jp k by rw [List.length_map]; exact hps)
      have hstk : (F0 m pc ls (st.map (jt al))).stack = (ps.map (jt al)).reverse ++ .ref (al b) :: r.map (jt al) := by
        show st.map (jt al) = _
        rw [e2]; simp [jt]
      have hdg : decode cd.code (F0 m pc ls (st.map (jt al))).pc = .ok (.invokespecial x, 3) := by rw [hb]; exact hd
      rcases hkin with rfl | rfl
      · simp only [jCws] at wd
        have w1 : Cond.methodLink (jcn (jo i)) x (jn k) ∈ jGW := wd _ List.mem_cons_self
        have w2 : Cond.instanceMethod (jn k) ∈ jGW := wd _ (List.mem_cons_of_mem _ List.mem_cons_self)
        have w3 : Cond.initialized (jn k).cls ∈ jGW := wd _ (List.mem_cons_of_mem _ (List.mem_cons_of_mem _ List.mem_cons_self))
        have w4 : jcw k ∈ jGW := wd _ (List.mem_cons_of_mem _ (List.mem_cons_of_mem _ (List.mem_cons_of_mem _ List.mem_cons_self)))
        have hemp : (jh k).isEmpty = true := by
          rcases hh with ⟨q, -⟩ | ⟨-, -, q⟩
          · cases q
          · exact q
        have hcode : (Cond.code (jn k) (jb k) (jl k) none).before args S = true := by
          rw [← hret, ← jcw_code hemp]; exact hts _ w4
        have hI := jInvI hx hown hnm (hts _ w1) (hts _ w2) hcode ⟨d2, d3⟩ rfl hla hstk hdg (p := p) (l := l) (e := e) (R := jm i) (below := below) (meth := meth) (locs := locs) (cells := c) (slots := s) (H := H)
        exact J_core (as := .ref b :: ps) (st := st) (r := r) C hE hH hS hl (jlt hc) k1 w4 w3 d4 hI hr hf hlen hg hK
      · simp only [jCws] at wd
        have w2 : Cond.instanceMethod (jn k) ∈ jGW := wd _ List.mem_cons_self
        have w3 : Cond.initialized (jn k).cls ∈ jGW := wd _ (List.mem_cons_of_mem _ List.mem_cons_self)
        have w4 : jcw k ∈ jGW := wd _ (List.mem_cons_of_mem _ (List.mem_cons_of_mem _ List.mem_cons_self))
        have hemp : (jh k).isEmpty = true := by
          rcases hh with ⟨q, -⟩ | ⟨-, -, q⟩
          · cases q
          · exact q
        have hcode : (Cond.code (jn k) (jb k) (jl k) none).before args S = true := by
          rw [← hret, ← jcw_code hemp]; exact hts _ w4
        have hI := jInvIN hx hown hnm (va_Nw.use rfl (hB.2.2.2.2.2.1 _ (hn (Or.inr rfl)))) (hts _ w2) hcode ⟨d2, d3⟩ rfl hla hstk hdg (p := p) (l := l) (e := e) (R := jm i) (below := below) (meth := meth) (locs := locs) (cells := c) (slots := s) (H := H)
        exact J_core (as := .ref b :: ps) (st := st) (r := r) C hE hH hS hl (jlt hc) k1 w4 w3 d4 hI hr hf hlen hg hK
    · exact hv9.elim
end
section
theorem jXcast : ∀ q ∈ jXL, q.2.2.2.2.1 ∈ jCast := by decide +kernel
set_option maxHeartbeats 1000000 in
theorem J_throw {l : Launch} {E : jEnv} {i pc : Nat} {q : Nat × Nat × Nat × String × String} {loc : List (Option Value)} {st : List Value} {h : List jC} {c s : Nat} {Q : jO → List jC → Prop}
    (hq : jthr i pc = some q) (h1 : jrest st = true) (h2 : 6 ≤ (jm i).frames) (h3 : 90 ≤ (jm i).locals) (h4 : c + 1 ≤ (jm i).cells) (h5 : s + 6 ≤ (jm i).slots) (hQ : Q (.inr q.2.2.2.1) h) : GO l E i pc loc st h c s Q := by
  intro p e S m args below meth cd C al0 h0 al H locs ls hE hH hS hl
  obtain ⟨hx, hb, hml, hrt, hown, hts, htab, hlk, hini, hB, hst⟩ := id C
  have mem := jthr_ok hq
  obtain ⟨o1, o2⟩ := jXo _ mem
  obtain ⟨c1, c2, c3, c4, c5⟩ := jXc _ mem
  obtain ⟨k1, k2, k3⟩ := jXk _ mem
  have ka := jXa _ mem
  have kg := jXg _ mem
  have kc := jXcast _ mem
  obtain ⟨ik, is, ic, X, text⟩ := q
  dsimp only at o1 o2 c1 c2 c3 c4 c5 k1 k2 k3 ka kg kc hQ
  rw [o1] at hown
  obtain ⟨sa, hsa⟩ := hB.2.2.2.1 (is, text) (List.mem_map.mpr ⟨_, mem, rfl⟩)
  have hd0 := jdec c1
  have hd3 := jdec c2
  have hd4 := jdec c3
  have hd6 := jdec c4
  have hd9 := jdec c5
  have hat : ∀ w ∈ vx_atS "TrainingRows" ic X jEx, w.before args S = true := by
    intro w hw
    rcases ka w hw with g | g
    · exact hts w g
    · rcases List.mem_append.mp g with g | g
      · obtain ⟨y, hy, rfl⟩ := List.mem_map.mp g
        exact va_Nw.use rfl (hB.2.2.2.2.2.2.1 y hy)
      · obtain ⟨y, hy, rfl⟩ := List.mem_map.mp g
        exact va_Nw.use rfl (hB.2.2.2.2.2.2.2.1 y hy)
  have hsum := jrest_s h1
  have key := vx_throwS (p := p) (l := l) (e := e) (R := jm i) (s := S) (m := m) (args := args) (below := below) (meth := meth) (c := cd) (H := H) (locs := locs) (cells := c) (slots := s) (cc := jb i) (pc := pc) (own := "TrainingRows") (cls := X) (text := text) (names := jEx) (ik := ik) (is := is) (ic := ic) (mc := (jm i).cells) (ms := (jm i).slots) (sa := sa) (A := jA E) (ls := ls) (rest := st.map (jt al)) (free := jA E) (Qc := fun _ _ _ _ => False) (XC := jXC E Q al0 h0)
    hx hb hst hown k3 jXf (hts _ (jgood_spec k1)) (hts _ (jgood_spec k2)) hsa hat kg hB.2.1 hB.2.2.1 hS (hl.1.trans hml.symm) hd0 hd3 hd4 hd6 hd9
    (fun x hx9 => by rw [htab, List.isEmpty_iff.mp o2] at hx9; cases hx9) (by simp [jEx]; omega) (by rw [jt_sum]; simp [jEx]; omega) h4 h5 hlk
    (fun t ha hz hk => ⟨al, h, kc, hQ, hE, ⟨hH.1.kept (fun j q hq => hk q.1 ((hH.1 j q hq).lt)), hH.2⟩, ⟨Nat.le_trans hS.1 hz, fun q g1 g2 => (hk q (Nat.lt_of_lt_of_le g1 hS.1)).trans (hS.2.1 q g1 g2)⟩⟩) hS.2.2 h4 h5
  intro T hT X9
  obtain ⟨t, a1, o, b1, b2, b3⟩ := key T hT X9
  refine ⟨t, a1, o, b1, b2, ?_⟩
  rcases b3 with ⟨b3, -⟩ | b3
  · exact b3.elim
  · exact Or.inr b3
theorem jW_congr {cA : Nat → ClassId} {al al' : Nat → Nat} {n : Nat} (ha : ∀ k, k < n → al' k = al k) (h9 : al' 9999 = al 9999) : ∀ (h : List jC) (j : Nat), j + h.length ≤ n → jwfh n h = true → jW cA al' j h = jW cA al j h
  | [], _, _, _ => rfl
  | c :: r, j, hl, hw => by
    simp only [List.length_cons] at hl
    simp only [jwfh, List.all_cons, Bool.and_eq_true] at hw
    simp only [jW]
    rw [ha j (by omega), jW_congr ha h9 r (j + 1) (by omega) hw.2]
    congr 2
    cases c with
    | inl a => obtain ⟨t, n, f⟩ := a; cases f <;> rfl
    | inr o =>
      obtain ⟨k, fs⟩ := o
      simp only [jE]
      congr 2
      exact List.map_congr_left fun v hv => jwfv_eq (List.all_eq_true.mp hw.1 v hv) ha h9
theorem jdef_ok : ∀ k, k < 5 → (∀ v ∈ jdef k, v = .int 0 ∨ v = .null) ∧ (∀ j, j < (jdef k).length → defaultValue (jY k j) = (jdef k).getD j .null) := by decide +kernel
theorem jdef_map {k : Nat} (hk : k < 5) (al : Nat → Nat) : (jdef k).map (jt al) = jdef k := by
  conv => rhs; rw [← List.map_id (jdef k)]
  refine List.map_congr_left fun v hv => ?_
  rcases (jdef_ok k hk).1 v hv with rfl | rfl <;> rfl
theorem jdef_len {k : Nat} {r : vw_C} (h : jCl[k]? = some r) : (jdef k).length = r.2.2 := by
  simp [jdef, h]
/-- behind a making: the addresses with the new one -/
def jup (al : Nat → Nat) (n q : Nat) : Nat → Nat := fun k => if k = n then q else al k
theorem jup_lt {al : Nat → Nat} {n q k : Nat} (h : k < n) : jup al n q k = al k := if_neg (by omega)
theorem jup_self {al : Nat → Nat} {n q : Nat} : jup al n q n = q := if_pos rfl
theorem jExt_new {al0 al : Nat → Nat} {h0 h : List jC} {q : Nat} {c : jC} (x : jExt al0 h0 al h) : jExt al0 h0 (jup al h.length q) (h ++ [c]) := by
  obtain ⟨x1, x2, x3⟩ := x
  refine ⟨by simp; omega, fun k hk => by rw [jup_lt (by omega)]; exact x2 k hk, fun e => ?_⟩
  simp at e; omega
set_option maxHeartbeats 1000000 in
theorem J_new {l : Launch} {E : jEnv} {i pc x k : Nat} {loc : List (Option Value)} {st : List Value} {h : List jC} {c s : Nat} {K : jK} {Q : jO → List jC → Prop}
    (hc : jcode i pc = some (.new x, 3)) (hq : jnew i x = some k) (h1 : jwf h.length loc st = true) (h2 : jwfh h.length h = true) (h3 : h.length < 9999) (h4 : c + 1 ≤ (jm i).cells) (h5 : s + (jdef k).length ≤ (jm i).slots)
    (hk : K (pc + 3) loc (.ref h.length :: st) (h ++ [.inr (k, jdef k)]) (c + 1) (s + (jdef k).length)) (hK : ∀ nx loc st h c s, K nx loc st h c s → GO l E i nx loc st h c s Q) : GO l E i pc loc st h c s Q := by
  intro p e S m args below meth cd C al0 h0 al H locs ls hE hH hS hl
  obtain ⟨hx, hb, hml, hrt, hown, hts, htab, hlk, hini, hB, hst⟩ := id C
  have hd := jdec hc
  obtain ⟨g1, g2, g3, g4⟩ := jN_all _ (jnew_ok hq)
  dsimp only at g1 g2 g3 g4
  have hcl : jCl[k]? = some (jCl[k]'(by simpa using g4)) := List.getElem?_eq_getElem _
  generalize jCl[k]'(by simpa using g4) = w at hcl
  obtain ⟨f1, f2, f3, f4, f5, f6⟩ := jcl_facts hcl
  have hlen := jdef_len hcl
  rw [hlen] at g2 h5 hk
  rw [← f6] at g1 g2 g3
  have hA : ∀ q, S.heap.size ≤ q → jA E q := fun q hq => Nat.le_trans hB.2.2.2.2.2.2.2.2.2.1 hq
  refine va_new (D := jD E) (ci := k) (fs := jdef k) (C := w.1) (T := w.2.1) (N := w.2.2) hx hb hts (jlay w (List.mem_of_getElem? hcl)) (jY k) f1 hown (hts _ (jgood_spec g1)) (hts _ (jgood_spec g2)) (hts _ (jgood_spec g3)) hB.1 hH.1 hH.2.1 hS hA hcl (fun j hj => (jdef_ok k g4).2 j (by rw [hlen]; exact hj)) h4 h5 hd (fun q H1 hP1 hD1 hS1 => ?_)
  have ha9 : ∀ j, j < h.length → jup al h.length q j = al j := fun j hj => jup_lt hj
  have h99 : jup al h.length q 9999 = al 9999 := if_neg (by omega)
  obtain ⟨b1, b2⟩ := jwf_eq h1 ha9 h99
  have e1 : jW E.2.2.1 (jup al h.length q) 0 (h ++ [.inr (k, jdef k)]) = jW E.2.2.1 al 0 h ++ [(q, .inr (k, jdef k))] := by
    rw [jW_app, jW_congr ha9 h99 h 0 (by omega) h2, Nat.zero_add, jup_self]
    simp only [jE, jdef_map g4]
  have R := hK _ _ _ _ _ _ hk p e S m args below meth cd C al0 h0 (jup al h.length q) H1 locs ls (jExt_new hE) ⟨by rw [e1]; exact hP1, by rw [e1]; exact hD1, h99.trans hH.2.2⟩ hS1 (by rw [b1]; exact hl)
  have e2 : (Value.ref h.length :: st).map (jt (jup al h.length q)) = .ref q :: st.map (jt al) := by
    rw [List.map_cons, b2]
    show Value.ref (jup al h.length q h.length) :: _ = _
    rw [jup_self]
  rw [e2] at R
  exact R
theorem jty_of {E : jEnv} {S : State} {t : Nat} {ty : FieldType} {cA' : ClassId} {tys : List (ClassId × FieldType)} (hK : va_K (jD E) jCl tys S) (hk : tys[t]? = some (E.2.2.1 t, ty)) (hK2 : va_K (jD E) jCl (tys ++ [(cA', ty)]) S) (hty : ty = .int ∨ ty = .boolean ∨ ty = .long) : cA' = E.2.2.1 t := by
  have h1 := (hK.2 t _ hk).2
  have h2 := (hK2.2 tys.length (cA', ty) (by simp)).2
  dsimp only at h1 h2
  rcases hty with rfl | rfl | rfl
  · exact Option.some.inj ((show S.vm.findClass _ = some cA' from h2).symm.trans h1)
  · exact Option.some.inj ((show S.vm.findClass _ = some cA' from h2).symm.trans h1)
  · exact Option.some.inj ((show S.vm.findClass _ = some cA' from h2).symm.trans h1)
def jsum (cc : (Nat → Int32) ⊕ (Nat → Int64)) : (Nat → Int32) ⊕ (Nat → Int64) ⊕ (Nat → UInt32) ⊕ (Nat → UInt64) ⊕ (Nat → Option Nat) := match cc with
  | .inl f => .inl f
  | .inr f => .inr (.inl f)
set_option maxHeartbeats 1000000 in
theorem J_newa {l : Launch} {E : jEnv} {i pc t : Nat} {ty : FieldType} {at9 : ArrayType} {n : Int32} {loc : List (Option Value)} {st : List Value} {h : List jC} {c s : Nat} {K : jK} {Q : jO → List jC → Prop} {cc : (Nat → Int32) ⊕ (Nat → Int64)}
    (hc : jcode i pc = some (.newarray at9, 2)) (hty : newarray.typeOf at9 = ty) (ht : (jtys E)[t]? = some (E.2.2.1 t, ty)) (ht3 : ty = .int ∨ ty = .boolean ∨ ty = .long) (hw : Cond.arrayClass ty ∈ jGW) (hcell : ∀ cA : ClassId, vp_cell cA (n.toNatClampNeg, jsum cc) = arrV cA n.toNatClampNeg (fun _ => defaultValue ty))
    (h1 : jwf h.length loc st = true) (h2 : jwfh h.length h = true) (h3 : h.length < 9999) (hn : ¬ n < 0) (hn2 : n.toNatClampNeg ≤ 100000) (h4 : c + 1 ≤ (jm i).cells) (h5 : s + n.toNatClampNeg ≤ (jm i).slots)
    (hk : K (pc + 2) loc (.ref h.length :: st) (h ++ [.inl (t, n.toNatClampNeg, cc)]) (c + 1) (s + n.toNatClampNeg)) (hK : ∀ nx loc st h c s, K nx loc st h c s → GO l E i nx loc st h c s Q) : GO l E i pc loc (.int n :: st) h c s Q := by
  intro p e S m args below meth cd C al0 h0 al H locs ls hE hH hS hl
  obtain ⟨hx, hb, hml, hrt, hown, hts, htab, hlk, hini, hB, hst⟩ := id C
  have hd := jdec hc
  have hA : ∀ q, S.heap.size ≤ q → jA E q := fun q hq => Nat.le_trans hB.2.2.2.2.2.2.2.2.2.1 hq
  have hcb : componentBytes ty ≤ 8 := by rcases ht3 with rfl | rfl | rfl <;> decide
  refine va_newa (D := jD E) (atype := at9) (ty := ty) (N' := n.toNatClampNeg) (a0 := (n.toNatClampNeg, jsum cc)) hx hb (by rw [hty]; exact hts _ hw) hty hB.1 hH.1 hH.2.1 hS hA hcell hn rfl (by have := Nat.mul_le_mul hn2 hcb; omega) h4 h5 hd (fun q cA' H1 hK1 hP1 hD1 hS1 => ?_)
  have hca := jty_of hB.1 ht hK1 ht3
  subst hca
  have ha9 : ∀ j, j < h.length → jup al h.length q j = al j := fun j hj => jup_lt hj
  have h99 : jup al h.length q 9999 = al 9999 := if_neg (by omega)
  obtain ⟨b1, b2⟩ := jwf_eq h1 ha9 h99
  have e1 : jW E.2.2.1 (jup al h.length q) 0 (h ++ [.inl (t, n.toNatClampNeg, cc)]) = jW E.2.2.1 al 0 h ++ [(q, .inl (E.2.2.1 t, n.toNatClampNeg, jsum cc))] := by
    rw [jW_app, jW_congr ha9 h99 h 0 (by omega) h2, Nat.zero_add, jup_self]
    cases cc <;> rfl
  have R := hK _ _ _ _ _ _ hk p e S m args below meth cd C al0 h0 (jup al h.length q) H1 locs ls (jExt_new hE) ⟨by rw [e1]; exact hP1, by rw [e1]; exact hD1, h99.trans hH.2.2⟩ hS1 (by rw [b1]; exact hl)
  have e2 : (Value.ref h.length :: st).map (jt (jup al h.length q)) = .ref q :: st.map (jt al) := by
    rw [List.map_cons, b2]
    show Value.ref (jup al h.length q h.length) :: _ = _
    rw [jup_self]
  rw [e2] at R
  exact R
theorem J_obj {l : Launch} {E : jEnv} {i pc x a : Nat} {loc : List (Option Value)} {st : List Value} {h : List jC} {c s : Nat} {K : jK} {Q : jO → List jC → Prop}
    (hc : jcode i pc = some (.invokespecial x, 3)) (ho : jobj i x = true) (hr : jrest st = true) (h1 : 1 ≤ (jm i).frames) (h2 : 20 ≤ (jm i).locals) (hk : K (pc + 3) loc st h c s) (hK : ∀ nx loc st h c s, K nx loc st h c s → GO l E i nx loc st h c s Q) : GO l E i pc loc (.ref a :: st) h c s Q := by
  intro p e S m args below meth cd C al0 h0 al H locs ls hE hH hS hl
  obtain ⟨hx, hb, hml, hrt, hown, hts, htab, hlk, hini, hB, hst⟩ := id C
  have hd := jdec hc
  have hm : (jo i, x) ∈ jIL := by simpa [jobj] using ho
  refine W.objInit (g := F0 m pc ls (.ref (al a) :: st.map (jt al))) hx hb hown (hts _ (jgood_spec (jI_all _ hm))) (hts _ (jgood_spec jI_o.1)) (hts _ (jgood_spec jI_o.2)) rfl (hl.1.trans hml.symm) (a := al a) (rest := st.map (jt al)) rfl hd h1 ?_ ?_
  · rw [jt_sum]
    have := jrest_s hr
    show 2 * 0 + _ + 12 ≤ _
    omega
  · exact hK _ _ _ _ _ _ hk p e S m args below meth cd C al0 h0 al H locs ls hE hH hS hl
end
section
/-- one step, and then K -/
def jstep (l : Launch) (E : jEnv) (i pc : Nat) (loc : List (Option Value)) (st : List Value) (h : List jC) (c s : Nat) (K : jK) (Q : jO → List jC → Prop) : Prop := jso (jcd i pc) fun z => jop l E i pc z.1 z.2 loc st h c s K Q
theorem J_step {l : Launch} {E : jEnv} {i pc : Nat} {loc : List (Option Value)} {st : List Value} {h : List jC} {c s : Nat} {K : jK} {Q : jO → List jC → Prop} (hj : jstep l E i pc loc st h c s K Q) (hK : ∀ nx loc st h c s, K nx loc st h c s → GO l E i nx loc st h c s Q) : GO l E i pc loc st h c s Q := by
  obtain ⟨z, hz, hj⟩ := jso_s hj
  cases hc : jcode i pc with
  | none => simp [jcd, hc] at hz
  | some r =>
    obtain ⟨raw, len⟩ := r
    simp only [jcd, hc, Option.map_some, Option.some.injEq] at hz
    subst hz
    dsimp only at hj
    have ck := jchk_of hc
    cases raw with
    | invokevirtual x =>
      simp only [jchk, beq_iff_eq] at ck; subst ck
      exact J_virt hc hj hK
    | invokestatic x =>
      simp only [jchk, beq_iff_eq] at ck; subst ck
      exact J_stat hc hj hK
    | invokespecial x =>
      simp only [jchk, beq_iff_eq] at ck; subst ck
      simp only [jnorm, jop] at hj
      split at hj
      · rename_i ho
        obtain ⟨a, r, rfl, h1, h2, h3, hj⟩ := j1r_s hj
        exact J_obj hc ho h1 h2 h3 hj hK
      · exact J_spec hc hj hK
    | new x =>
      simp only [jchk, beq_iff_eq] at ck; subst ck
      simp only [jnorm, jop] at hj
      split at hj
      · rename_i q hq
        obtain ⟨h1, h2, h3, h4, h5, hQ⟩ := hj
        exact J_throw hq h1 h2 h3 h4 h5 hQ
      · obtain ⟨k, hk, h1, h2, h3, h4, h5, hj⟩ := jso_s hj
        exact J_new hc hk h1 h2 h3 h4 h5 hj hK
    | newarray t =>
      simp only [jchk, beq_iff_eq] at ck; subst ck
      simp only [jnorm, jop] at hj
      obtain ⟨n, r, rfl, h1, h2, h3, h4, h5, h6, h7, hj⟩ := j1i_s hj
      cases t <;> dsimp only at hj
      case int => exact J_newa (t := 0) (ty := .int) (cc := .inl fun _ => 0) hc rfl rfl (Or.inl rfl) (jgood_spec jarr_ok.1) (fun _ => rfl) h1 h2 h3 h4 h5 h6 h7 hj hK
      case boolean => exact J_newa (t := 1) (ty := .boolean) (cc := .inl fun _ => 0) hc rfl rfl (Or.inr (Or.inl rfl)) (jgood_spec jarr_ok.2.1) (fun _ => rfl) h1 h2 h3 h4 h5 h6 h7 hj hK
      case long => exact J_newa (t := 2) (ty := .long) (cc := .inr fun _ => 0) hc rfl rfl (Or.inr (Or.inr rfl)) (jgood_spec jarr_ok.2.2) (fun _ => rfl) h1 h2 h3 h4 h5 h6 h7 hj hK
      all_goals exact hj.elim
    | _ => exact J_simple hc hj hK trivial
def jmem : List Nat → Nat → Bool
  | [], _ => false
  | a :: r, x => Nat.beq a x || jmem r x
/-- n steps, but not on from the places S -/
def jwp (l : Launch) (E : jEnv) (i : Nat) (S : List Nat) (Q : jO → List jC → Prop) : Nat → jK
  | 0 => fun pc loc st h c s => GO l E i pc loc st h c s Q
  | n + 1 => fun pc loc st h c s => match jmem S pc with
    | true => GO l E i pc loc st h c s Q
    | false => jstep l E i pc loc st h c s (jwp l E i S Q n) Q
theorem jwp_go {l : Launch} {E : jEnv} {i : Nat} {S : List Nat} {Q : jO → List jC → Prop} : ∀ (n : Nat) (pc : Nat) (loc : List (Option Value)) (st : List Value) (h : List jC) (c s : Nat), jwp l E i S Q n pc loc st h c s → GO l E i pc loc st h c s Q
  | 0, _, _, _, _, _, _, hj => hj
  | n + 1, pc, loc, st, h, c, s, hj => by
    unfold jwp at hj
    split at hj
    · exact hj
    · exact J_step hj (jwp_go n)
theorem J_wp {l : Launch} {E : jEnv} {i pc : Nat} {loc : List (Option Value)} {st : List Value} {h : List jC} {c s : Nat} {Q : jO → List jC → Prop} (S : List Nat) (n : Nat) (hj : jstep l E i pc loc st h c s (jwp l E i S Q n) Q) : GO l E i pc loc st h c s Q := J_step hj (jwp_go n)
theorem GO_imp {l : Launch} {E : jEnv} {i pc : Nat} {loc : List (Option Value)} {st : List Value} {h : List jC} {c s : Nat} {Q Q' : jO → List jC → Prop} (hq : ∀ o h', Q o h' → Q' o h') (hg : GO l E i pc loc st h c s Q) : GO l E i pc loc st h c s Q' := by
  intro p e S m args below meth cd C al0 h0 al H locs ls hE hH hS hl T hT X
  obtain ⟨t, a1, o, b1, b2, b3⟩ := hg p e S m args below meth cd C al0 h0 al H locs ls hE hH hS hl T hT X
  refine ⟨t, a1, o, b1, b2, ?_⟩
  rcases b3 with ⟨⟨v, al', h', e1, e2, e3⟩, b4⟩ | ⟨q, e1, X, ce, L, ⟨al', h', e2, e3, e4⟩, b4⟩
  · exact Or.inl ⟨⟨v, al', h', e1, hq _ _ e2, e3⟩, b4⟩
  · exact Or.inr ⟨q, e1, X, ce, L, ⟨al', h', e2, hq _ _ e3, e4⟩, b4⟩
/-- fewer known locals -/
theorem GO_loc {l : Launch} {E : jEnv} {i pc : Nat} {loc loc' : List (Option Value)} {st : List Value} {h : List jC} {c s : Nat} {Q : jO → List jC → Prop} (hle : ∀ (k : Nat) (v : Value), loc'[k]? = some (some v) → loc[k]? = some (some v)) (hg : GO l E i pc loc' st h c s Q) : GO l E i pc loc st h c s Q := by
  intro p e S m args below meth cd C al0 h0 al H locs ls hE hH hS hl
  refine hg p e S m args below meth cd C al0 h0 al H locs ls hE hH hS ⟨hl.1, hl.2.1, fun q hq => hl.2.2 q ?_⟩
  obtain ⟨⟨k, v⟩, hm, rfl⟩ := List.mem_map.mp hq
  obtain ⟨j, h1, h2⟩ := (jlist_mem _ 0 (k, v)).mp hm
  exact List.mem_map.mpr ⟨(k, v), (jlist_mem _ 0 (k, v)).mpr ⟨j, h1, hle _ _ h2⟩, rfl⟩
end
section
/-! goal first: a rule an instruction, over GO -/
section JR
variable {l : Launch} {E : jEnv} {i pc : Nat} {nx : Nat} {loc : List (Option Value)} {st : List Value} {h : List jC} {c s : Nat} {Q : jO → List jC → Prop}
theorem J_s {ins : Instr} (hz : jcd i pc = some (ins, nx)) (hj : jop l E i pc ins nx loc st h c s (fun nx loc st h c s => GO l E i nx loc st h c s Q) Q) : GO l E i pc loc st h c s Q := by
  refine J_step (K := fun nx loc st h c s => GO l E i nx loc st h c s Q) ?_ (fun _ _ _ _ _ _ h => h)
  unfold jstep
  rw [hz]
  exact hj
theorem R_iload {k : Nat} {x : Int32} (hz : jcd i pc = some (.iload k, nx)) (hg : loc[k]? = some (some (.int x))) (kk : GO l E i nx loc (.int x :: st) h c s Q) : GO l E i pc loc st h c s Q := J_s hz (by simp only [jop, jgi, hg]; exact kk)
theorem R_lload {k : Nat} {x : Int64} (hz : jcd i pc = some (.lload k, nx)) (hg : loc[k]? = some (some (.long x))) (kk : GO l E i nx loc (.long x :: st) h c s Q) : GO l E i pc loc st h c s Q := J_s hz (by simp only [jop, jgl, hg]; exact kk)
theorem R_aload {k : Nat} {x : Nat} (hz : jcd i pc = some (.aload k, nx)) (hg : loc[k]? = some (some (.ref x))) (kk : GO l E i nx loc (.ref x :: st) h c s Q) : GO l E i pc loc st h c s Q := J_s hz (by simp only [jop, jgr, hg]; exact kk)
theorem R_istore {k : Nat} {x : Int32} {loc' : List (Option Value)} (hz : jcd i pc = some (.istore k, nx)) (hf : jfree loc k = true) (hs : loc.set k (some (.int x)) = loc') (kk : GO l E i nx loc' st h c s Q) : GO l E i pc loc (.int x :: st) h c s Q := J_s hz ⟨hf, by rw [hs]; exact kk⟩
theorem R_astore {k : Nat} {x : Nat} {loc' : List (Option Value)} (hz : jcd i pc = some (.astore k, nx)) (hf : jfree loc k = true) (hs : loc.set k (some (.ref x)) = loc') (kk : GO l E i nx loc' st h c s Q) : GO l E i pc loc (.ref x :: st) h c s Q := J_s hz ⟨hf, by rw [hs]; exact kk⟩
theorem R_iinc {k : Nat} {n : Int} {x v : Int32} {loc' : List (Option Value)} (hz : jcd i pc = some (.iinc k n, nx)) (hg : loc[k]? = some (some (.int x))) (hf : jfree loc k = true) (hv : Int32.ofInt n = v) (hs : loc.set k (some (.int (x + v))) = loc') (kk : GO l E i nx loc' st h c s Q) : GO l E i pc loc st h c s Q := J_s hz (by simp only [jop, jgi, hg]; exact ⟨hf, by rw [hv, hs]; exact kk⟩)
theorem R_iconst {n : Int} {v : Int32} (hz : jcd i pc = some (.iconst n, nx)) (hv : Int32.ofInt n = v) (kk : GO l E i nx loc (.int v :: st) h c s Q) : GO l E i pc loc st h c s Q := J_s hz (by subst hv; exact kk)
theorem R_bipush {n : Int} {v : Int32} (hz : jcd i pc = some (.bipush n, nx)) (hv : (Int8.ofInt n).toInt32 = v) (kk : GO l E i nx loc (.int v :: st) h c s Q) : GO l E i pc loc st h c s Q := J_s hz (by subst hv; exact kk)
theorem R_sipush {n : Int} {v : Int32} (hz : jcd i pc = some (.sipush n, nx)) (hv : (Int16.ofInt n).toInt32 = v) (kk : GO l E i nx loc (.int v :: st) h c s Q) : GO l E i pc loc st h c s Q := J_s hz (by subst hv; exact kk)
theorem R_lconst {n : Fin 2} {v : Int64} (hz : jcd i pc = some (.lconst n, nx)) (hv : Int64.ofNat n.val = v) (kk : GO l E i nx loc (.long v :: st) h c s Q) : GO l E i pc loc st h c s Q := J_s hz (by subst hv; exact kk)
theorem R_ldc2 {x : Nat} {v : Int64} (hz : jcd i pc = some (.ldc2_w x, nx)) (hv : jlong i x = some v) (kk : GO l E i nx loc (.long v :: st) h c s Q) : GO l E i pc loc st h c s Q := J_s hz (by simp only [jop, jso, hv]; exact kk)
theorem R_iadd {x y : Int32} (hz : jcd i pc = some (.iadd, nx)) (kk : GO l E i nx loc (.int (x + y) :: st) h c s Q) : GO l E i pc loc (.int y :: .int x :: st) h c s Q := J_s hz kk
theorem R_isub {x y : Int32} (hz : jcd i pc = some (.isub, nx)) (kk : GO l E i nx loc (.int (x - y) :: st) h c s Q) : GO l E i pc loc (.int y :: .int x :: st) h c s Q := J_s hz kk
theorem R_imul {x y : Int32} (hz : jcd i pc = some (.imul, nx)) (kk : GO l E i nx loc (.int (x * y) :: st) h c s Q) : GO l E i pc loc (.int y :: .int x :: st) h c s Q := J_s hz kk
theorem R_iand {x y : Int32} (hz : jcd i pc = some (.iand, nx)) (kk : GO l E i nx loc (.int (x &&& y) :: st) h c s Q) : GO l E i pc loc (.int y :: .int x :: st) h c s Q := J_s hz kk
theorem R_ior {x y : Int32} (hz : jcd i pc = some (.ior, nx)) (kk : GO l E i nx loc (.int (x ||| y) :: st) h c s Q) : GO l E i pc loc (.int y :: .int x :: st) h c s Q := J_s hz kk
theorem R_ixor {x y : Int32} (hz : jcd i pc = some (.ixor, nx)) (kk : GO l E i nx loc (.int (x ^^^ y) :: st) h c s Q) : GO l E i pc loc (.int y :: .int x :: st) h c s Q := J_s hz kk
theorem R_ishl {x y : Int32} (hz : jcd i pc = some (.ishl, nx)) (kk : GO l E i nx loc (.int (x <<< (y &&& 31)) :: st) h c s Q) : GO l E i pc loc (.int y :: .int x :: st) h c s Q := J_s hz kk
theorem R_ishr {x y : Int32} (hz : jcd i pc = some (.ishr, nx)) (kk : GO l E i nx loc (.int (x >>> (y &&& 31)) :: st) h c s Q) : GO l E i pc loc (.int y :: .int x :: st) h c s Q := J_s hz kk
theorem R_idiv {x y : Int32} (hz : jcd i pc = some (.idiv, nx)) (hy : ¬ y = 0) (kk : GO l E i nx loc (.int (x / y) :: st) h c s Q) : GO l E i pc loc (.int y :: .int x :: st) h c s Q := J_s hz ⟨hy, kk⟩
theorem R_irem {x y : Int32} (hz : jcd i pc = some (.irem, nx)) (hy : ¬ y = 0) (kk : GO l E i nx loc (.int (x - x / y * y) :: st) h c s Q) : GO l E i pc loc (.int y :: .int x :: st) h c s Q := J_s hz ⟨hy, kk⟩
theorem R_i2l {x : Int32} (hz : jcd i pc = some (.i2l, nx)) (kk : GO l E i nx loc (.long x.toInt64 :: st) h c s Q) : GO l E i pc loc (.int x :: st) h c s Q := J_s hz kk
theorem R_l2i {x : Int64} (hz : jcd i pc = some (.l2i, nx)) (kk : GO l E i nx loc (.int x.toInt32 :: st) h c s Q) : GO l E i pc loc (.long x :: st) h c s Q := J_s hz kk
theorem R_land {x y : Int64} (hz : jcd i pc = some (.land, nx)) (kk : GO l E i nx loc (.long (x &&& y) :: st) h c s Q) : GO l E i pc loc (.long y :: .long x :: st) h c s Q := J_s hz kk
theorem R_lor {x y : Int64} (hz : jcd i pc = some (.lor, nx)) (kk : GO l E i nx loc (.long (x ||| y) :: st) h c s Q) : GO l E i pc loc (.long y :: .long x :: st) h c s Q := J_s hz kk
theorem R_lshl {x : Int64} {y : Int32} (hz : jcd i pc = some (.lshl, nx)) (kk : GO l E i nx loc (.long (x <<< (y.toInt64 &&& 63)) :: st) h c s Q) : GO l E i pc loc (.int y :: .long x :: st) h c s Q := J_s hz kk
theorem R_lshr {x : Int64} {y : Int32} (hz : jcd i pc = some (.lshr, nx)) (kk : GO l E i nx loc (.long (x >>> (y.toInt64 &&& 63)) :: st) h c s Q) : GO l E i pc loc (.int y :: .long x :: st) h c s Q := J_s hz kk
theorem R_lushr {x : Int64} {y : Int32} (hz : jcd i pc = some (.lushr, nx)) (kk : GO l E i nx loc (.long (x.toUInt64 >>> (y.toInt64.toUInt64 &&& Int64.toUInt64 63)).toInt64 :: st) h c s Q) : GO l E i pc loc (.int y :: .long x :: st) h c s Q := J_s hz kk
theorem R_lcmp {x y : Int64} (hz : jcd i pc = some (.lcmp, nx)) (kk : GO l E i nx loc (.int (lg_cmp x y) :: st) h c s Q) : GO l E i pc loc (.long y :: .long x :: st) h c s Q := J_s hz kk
theorem R_dup {a : Nat} (hz : jcd i pc = some (.dup, nx)) (kk : GO l E i nx loc (.ref a :: .ref a :: st) h c s Q) : GO l E i pc loc (.ref a :: st) h c s Q := J_s hz kk
theorem R_dup2 {a : Nat} {j : Int32} (hz : jcd i pc = some (.dup2, nx)) (kk : GO l E i nx loc (.int j :: .ref a :: .int j :: .ref a :: st) h c s Q) : GO l E i pc loc (.int j :: .ref a :: st) h c s Q := J_s hz kk
theorem R_goto {t : Int} {tn : Nat} (hz : jcd i pc = some (.goto t, nx)) (ht : t.toNat = tn) (kk : GO l E i tn loc st h c s Q) : GO l E i pc loc st h c s Q := J_s hz (by subst ht; exact kk)
theorem R_if {cd : ClassFile.Cond} {t : Int} {tn : Nat} {x : Int32} (hz : jcd i pc = some (.ifCond cd t, nx)) (ht : t.toNat = tn) (k1 : jcnd cd x 0 → GO l E i tn loc st h c s Q) (k2 : ¬ jcnd cd x 0 → GO l E i nx loc st h c s Q) : GO l E i pc loc (.int x :: st) h c s Q := J_s hz ⟨by subst ht; exact k1, k2⟩
theorem R_icmp {cd : ClassFile.Cond} {t : Int} {tn : Nat} {x y : Int32} (hz : jcd i pc = some (.if_icmp cd t, nx)) (ht : t.toNat = tn) (k1 : jcnd cd x y → GO l E i tn loc st h c s Q) (k2 : ¬ jcnd cd x y → GO l E i nx loc st h c s Q) : GO l E i pc loc (.int y :: .int x :: st) h c s Q := J_s hz ⟨by subst ht; exact k1, k2⟩
theorem R_get {x a k f : Nat} {fs : List Value} {v : Value} (hz : jcd i pc = some (.getfield x, nx)) (hq : jfld i x = some (k, f)) (ho : h[a]? = some (.inr (k, fs))) (hv : fs[f]? = some v) (kk : GO l E i nx loc (v :: st) h c s Q) : GO l E i pc loc (.ref a :: st) h c s Q := J_s hz (by simp only [jop, j1r, jso, hq, job, ho, hv]; exact ⟨trivial, kk⟩)
theorem R_puti {x a k f : Nat} {fs : List Value} {v : Int32} {h' : List jC} (hz : jcd i pc = some (.putfield x, nx)) (hq : jfld i x = some (k, f)) (hk : jfk k f = 0) (ho : h[a]? = some (.inr (k, fs))) (hl : f < fs.length) (hh : h.set a (.inr (k, fs.set f (.int v))) = h') (kk : GO l E i nx loc st h' c s Q) : GO l E i pc loc (.int v :: .ref a :: st) h c s Q := J_s hz (by simp only [jop, jso, hq, job, ho]; exact ⟨hk, trivial, hl, by rw [hh]; exact kk⟩)
theorem R_putr {x a k f v : Nat} {fs : List Value} {h' : List jC} (hz : jcd i pc = some (.putfield x, nx)) (hq : jfld i x = some (k, f)) (hk : jfk k f = 1 ∧ (jn i).name = "<init>" ∧ jo i = k) (ho : h[a]? = some (.inr (k, fs))) (hl : f < fs.length) (hh : h.set a (.inr (k, fs.set f (.ref v))) = h') (kk : GO l E i nx loc st h' c s Q) : GO l E i pc loc (.ref v :: .ref a :: st) h c s Q := J_s hz (by simp only [jop, jso, hq, job, ho]; exact ⟨hk.1, hk.2.1, hk.2.2, trivial, hl, by rw [hh]; exact kk⟩)
theorem R_sld {j : Int32} (hz : jcd i pc = some (.iaload, nx)) (hin : vp_in j E.2.2.2.2.2.1) (kk : GO l E i nx loc (.int (E.2.2.2.2.2.2 j.toNatClampNeg) :: st) h c s Q) : GO l E i pc loc (.int j :: .ref 9999 :: st) h c s Q := J_s hz (Or.inl ⟨rfl, hin, kk⟩)
theorem R_slen (hz : jcd i pc = some (.arraylength, nx)) (kk : GO l E i nx loc (.int (Int32.ofNat E.2.2.2.2.2.1) :: st) h c s Q) : GO l E i pc loc (.ref 9999 :: st) h c s Q := J_s hz (Or.inl ⟨rfl, kk⟩)
theorem R_ild {a n : Nat} {f : Nat → Int32} {j v : Int32} (hz : jcd i pc = some (.iaload, nx)) (ho : h[a]? = some (.inl (0, n, .inl f))) (hin : vp_in j n) (hv : f j.toNatClampNeg = v) (kk : GO l E i nx loc (.int v :: st) h c s Q) : GO l E i pc loc (.int j :: .ref a :: st) h c s Q := J_s hz (Or.inr (by simp only [jar, ho]; exact ⟨trivial, hin, by rw [hv]; exact kk⟩))
theorem R_zld {a n : Nat} {f : Nat → Int32} {j v : Int32} (hz : jcd i pc = some (.baload, nx)) (ho : h[a]? = some (.inl (1, n, .inl f))) (hin : vp_in j n) (hv : f j.toNatClampNeg = v) (kk : GO l E i nx loc (.int v :: st) h c s Q) : GO l E i pc loc (.int j :: .ref a :: st) h c s Q := J_s hz (by simp only [jop, jia, jar, ho]; exact ⟨trivial, hin, by rw [hv]; exact kk⟩)
theorem R_lld {a n : Nat} {f : Nat → Int64} {j : Int32} {v : Int64} (hz : jcd i pc = some (.laload, nx)) (ho : h[a]? = some (.inl (2, n, .inr f))) (hin : vp_in j n) (hv : f j.toNatClampNeg = v) (kk : GO l E i nx loc (.long v :: st) h c s Q) : GO l E i pc loc (.int j :: .ref a :: st) h c s Q := J_s hz (by simp only [jop, jia, jal, ho]; exact ⟨trivial, hin, by rw [hv]; exact kk⟩)
theorem R_ist {a n : Nat} {f : Nat → Int32} {j x : Int32} {h' : List jC} (hz : jcd i pc = some (.iastore, nx)) (ho : h[a]? = some (.inl (0, n, .inl f))) (hin : vp_in j n) (hh : h.set a (.inl (0, n, .inl (upd f j.toNatClampNeg x))) = h') (kk : GO l E i nx loc st h' c s Q) : GO l E i pc loc (.int x :: .int j :: .ref a :: st) h c s Q := J_s hz (by simp only [jop, jiia, jar, ho]; exact ⟨trivial, hin, by rw [hh]; exact kk⟩)
theorem R_zst {a n : Nat} {f : Nat → Int32} {j x : Int32} {h' : List jC} (hz : jcd i pc = some (.bastore, nx)) (ho : h[a]? = some (.inl (1, n, .inl f))) (hin : vp_in j n) (hh : h.set a (.inl (1, n, .inl (upd f j.toNatClampNeg (x &&& 1)))) = h') (kk : GO l E i nx loc st h' c s Q) : GO l E i pc loc (.int x :: .int j :: .ref a :: st) h c s Q := J_s hz (by simp only [jop, jiia, jar, ho]; exact ⟨trivial, hin, by rw [hh]; exact kk⟩)
theorem R_lst {a n : Nat} {f : Nat → Int64} {j : Int32} {x : Int64} {h' : List jC} (hz : jcd i pc = some (.lastore, nx)) (ho : h[a]? = some (.inl (2, n, .inr f))) (hin : vp_in j n) (hh : h.set a (.inl (2, n, .inr (vp_updL f j.toNatClampNeg x))) = h') (kk : GO l E i nx loc st h' c s Q) : GO l E i pc loc (.long x :: .int j :: .ref a :: st) h c s Q := J_s hz (by simp only [jop, jlia, jal, ho]; exact ⟨trivial, hin, by rw [hh]; exact kk⟩)
theorem R_alen {a n : Nat} {f : Nat → Int32} {v : Int32} (hz : jcd i pc = some (.arraylength, nx)) (ho : h[a]? = some (.inl (0, n, .inl f))) (hv : Int32.ofNat n = v) (kk : GO l E i nx loc (.int v :: st) h c s Q) : GO l E i pc loc (.ref a :: st) h c s Q := J_s hz (Or.inr (by simp only [jar, ho]; exact ⟨trivial, by rw [hv]; exact kk⟩))
theorem R_iret {v : Int32} (hz : jcd i pc = some (.ireturn, nx)) (hr : (jr i == some .boolean) = false ∨ v &&& 1 = v) (h1 : c ≤ jrc i ∧ s ≤ jrs i) (hQ : Q (.inl (some (.int v))) h) : GO l E i pc loc [.int v] h c s Q := J_s hz ⟨fun e => hr.elim (fun z => by rw [e] at z; cases z) id, h1.1, h1.2, hQ⟩
theorem R_vret (hz : jcd i pc = some (.return_, nx)) (h1 : c ≤ jrc i ∧ s ≤ jrs i) (hQ : Q (.inl none) h) : GO l E i pc loc [] h c s Q := J_s hz ⟨h1.1, h1.2, hQ⟩
theorem R_throw {x : Nat} {q : Nat × Nat × Nat × String × String} {X : String} (hz : jcd i pc = some (.new x, nx)) (hq : jthr i pc = some q) (hX : q.2.2.2.1 = X) (h1 : jrest st = true) (h2 : 6 ≤ (jm i).frames ∧ 90 ≤ (jm i).locals) (h3 : c + 1 ≤ (jm i).cells ∧ s + 6 ≤ (jm i).slots) (hQ : Q (.inr X) h) : GO l E i pc loc st h c s Q := J_s hz (by simp only [jop, hq]; exact ⟨h1, h2.1, h2.2, h3.1, h3.2, by rw [hX]; exact hQ⟩)
theorem R_obj {x a : Nat} (hz : jcd i pc = some (.invokespecial x, nx)) (ho : jobj i x = true) (hr : jrest st = true) (h1 : 1 ≤ (jm i).frames ∧ 20 ≤ (jm i).locals) (kk : GO l E i nx loc st h c s Q) : GO l E i pc loc (.ref a :: st) h c s Q := J_s hz (by simp only [jop, ho]; exact ⟨hr, h1.1, h1.2, kk⟩)
/-- a callee's end, seen by its caller -/
def jBk (l : Launch) (E : jEnv) (i pc nx k : Nat) (loc : List (Option Value)) (r : List Value) (h : List jC) (c s : Nat) (Q : jO → List jC → Prop) : jO → List jC → Prop := jback i pc nx k loc r h c s (fun nx loc st h c s => GO l E i nx loc st h c s Q) Q
theorem R_cv {x k a : Nat} {ps r : List Value} {loc' : List (Option Value)} (hz : jcd i pc = some (.invokevirtual x, nx)) (hq : jcal i x = some (0, k)) (ht : jtake (jp k + 1) [] st = some (.ref a :: ps, r)) (hr : jrest r = true) (hf : jfit i k c s = true) (hlen : (jent (.ref a :: ps)).length ≤ jl k) (hl : jpad (jl k) (jent (.ref a :: ps)) = loc') (ho : job h[a]? (jo k) fun _ => True) (hg : GO l E k 0 loc' [] h 0 0 (jBk l E i pc nx k loc r h c s Q)) : GO l E i pc loc st h c s Q := J_s hz (by
  simp only [jop, jcall, hq, jso]
  refine ⟨List.mem_cons_self, ?_⟩
  rw [show jp k + (if 0 = 1 ∨ 0 = 4 ∨ 0 = 6 then 0 else 1) = jp k + 1 from rfl, ht]
  refine ⟨hr, hf, hlen, fun _ => ho, fun e => ?_, by rw [hl]; exact hg⟩
  rcases e with e | e <;> cases e)
theorem R_cs {x k kind : Nat} {as r : List Value} {loc' : List (Option Value)} (hz : jcd i pc = some (.invokestatic x, nx)) (hq : jcal i x = some (kind, k)) (hk : kind = 1 ∨ kind = 4 ∨ kind = 6) (ht : jtake (jp k) [] st = some (as, r)) (hr : jrest r = true) (hf : jfit i k c s = true) (hlen : (jent as).length ≤ jl k) (hl : jpad (jl k) (jent as) = loc') (hg : GO l E k 0 loc' [] h 0 0 (jBk l E i pc nx k loc r h c s Q)) : GO l E i pc loc st h c s Q := J_s hz (by
  simp only [jop, jcall, hq, jso]
  refine ⟨by rcases hk with rfl | rfl | rfl <;> decide, ?_⟩
  rw [if_pos hk, Nat.add_zero, ht]
  refine ⟨hr, hf, hlen, fun e => ?_, fun e => ?_, by rw [hl]; exact hg⟩
  · rcases hk with rfl | rfl | rfl <;> cases e
  · rcases hk with rfl | rfl | rfl <;> rcases e with e | e <;> cases e)
theorem R_ci {x k kind a : Nat} {ps r : List Value} {loc' : List (Option Value)} (hz : jcd i pc = some (.invokespecial x, nx)) (hob : jobj i x = false) (hq : jcal i x = some (kind, k)) (hk : kind = 2 ∨ kind = 5) (ht : jtake (jp k + 1) [] st = some (.ref a :: ps, r)) (hr : jrest r = true) (hf : jfit i k c s = true) (hlen : (jent (.ref a :: ps)).length ≤ jl k) (hl : jpad (jl k) (jent (.ref a :: ps)) = loc') (hg : GO l E k 0 loc' [] h 0 0 (jBk l E i pc nx k loc r h c s Q)) : GO l E i pc loc st h c s Q := J_s hz (by
  simp only [jop, hob, jcall, hq, jso]
  refine ⟨by rcases hk with rfl | rfl <;> decide, ?_⟩
  rw [if_neg (by rcases hk with rfl | rfl <;> decide), ht]
  refine ⟨hr, hf, hlen, fun e => ?_, fun _ => trivial, by rw [hl]; exact hg⟩
  rcases hk with rfl | rfl <;> cases e)
theorem jBk_ret {k : Nat} {r : List Value} {h' : List jC} {v : Option Value} (hl : h'.length = h.length) (hk : jrc k = 0 ∧ jrs k = 0) (kk : GO l E i nx loc (v.toList ++ r) h' c s Q) : jBk l E i pc nx k loc r h c s Q (.inl v) h' := ⟨Or.inl hl, by rw [hk.1, hk.2]; exact kk⟩
theorem jBk_retw {k c' s' : Nat} {r : List Value} {h' : List jC} {v : Option Value} (hl : h'.length = h.length ∨ jwf h.length loc r = true) (hc : c + jrc k = c') (hs : s + jrs k = s') (kk : GO l E i nx loc (v.toList ++ r) h' c' s' Q) : jBk l E i pc nx k loc r h c s Q (.inl v) h' := ⟨hl, by rw [hc, hs]; exact kk⟩
theorem jBk_thr {k : Nat} {r : List Value} {h' : List jC} {X : String} (hl : h'.length = h.length) (hh : jHC.getD i [] = [] ∧ (jh i).isEmpty = true) (hQ : Q (.inr X) h') : jBk l E i pc nx k loc r h c s Q (.inr X) h' := ⟨Or.inl hl, by
  have e : jhan i pc X = none := by unfold jhan; rw [hh.1]; rfl
  rw [e]
  exact ⟨hh.2, hQ⟩⟩
theorem jBk_cat {k q j nx2 c' s' : Nat} {r : List Value} {loc' : List (Option Value)} {h' : List jC} {X : String} (hl : h'.length = h.length) (hq : jhan i pc X = some q) (hz : jcd i q = some (.astore j, nx2)) (hf : jfree loc j = true) (hs : loc.set j none = loc') (hc : c + (jm k).cells = c') (hs2 : s + (jm k).slots = s') (kk : GO l E i nx2 loc' [] h' c' s' Q) : jBk l E i pc nx k loc r h c s Q (.inr X) h' := ⟨Or.inl hl, by
  rw [hq]
  simp only [jso, hz]
  exact ⟨hf, by rw [hs, hc, hs2]; exact kk⟩⟩
theorem R_new {x k : Nat} {c' s' : Nat} {h' : List jC} {n : Nat} (hz : jcd i pc = some (.new x, nx)) (ht : jthr i pc = none) (hq : jnew i x = some k) (hn : h.length = n) (h1 : jwf n loc st = true) (h2 : jwfh n h = true) (h3 : n < 9999) (hc : c + 1 = c') (hs : s + (jdef k).length = s') (h4 : c' ≤ (jm i).cells) (h5 : s' ≤ (jm i).slots) (hh : h ++ [.inr (k, jdef k)] = h') (kk : GO l E i nx loc (.ref n :: st) h' c' s' Q) : GO l E i pc loc st h c s Q := J_s hz (by
  subst hn; subst hc; subst hs; subst hh
  simp only [jop, ht, jso, hq]
  exact ⟨h1, h2, h3, h4, h5, kk⟩)
theorem R_newi {v : Int32} {c' s' : Nat} {h' : List jC} {n N : Nat} (hz : jcd i pc = some (.newarray .int, nx)) (hn : h.length = n) (hN : v.toNatClampNeg = N) (h1 : jwf n loc st = true) (h2 : jwfh n h = true) (h3 : n < 9999) (hv : ¬ v < 0) (hv2 : N ≤ 100000) (hc : c + 1 = c') (hs : s + N = s') (h4 : c' ≤ (jm i).cells) (h5 : s' ≤ (jm i).slots) (hh : h ++ [.inl (0, N, .inl fun _ => 0)] = h') (kk : GO l E i nx loc (.ref n :: st) h' c' s' Q) : GO l E i pc loc (.int v :: st) h c s Q := J_s hz (by
  subst hn; subst hN; subst hc; subst hs; subst hh
  exact ⟨h1, h2, h3, hv, hv2, h4, h5, kk⟩)
theorem R_newz {v : Int32} {c' s' : Nat} {h' : List jC} {n N : Nat} (hz : jcd i pc = some (.newarray .boolean, nx)) (hn : h.length = n) (hN : v.toNatClampNeg = N) (h1 : jwf n loc st = true) (h2 : jwfh n h = true) (h3 : n < 9999) (hv : ¬ v < 0) (hv2 : N ≤ 100000) (hc : c + 1 = c') (hs : s + N = s') (h4 : c' ≤ (jm i).cells) (h5 : s' ≤ (jm i).slots) (hh : h ++ [.inl (1, N, .inl fun _ => 0)] = h') (kk : GO l E i nx loc (.ref n :: st) h' c' s' Q) : GO l E i pc loc (.int v :: st) h c s Q := J_s hz (by
  subst hn; subst hN; subst hc; subst hs; subst hh
  exact ⟨h1, h2, h3, hv, hv2, h4, h5, kk⟩)
theorem R_newl {v : Int32} {c' s' : Nat} {h' : List jC} {n N : Nat} (hz : jcd i pc = some (.newarray .long, nx)) (hn : h.length = n) (hN : v.toNatClampNeg = N) (h1 : jwf n loc st = true) (h2 : jwfh n h = true) (h3 : n < 9999) (hv : ¬ v < 0) (hv2 : N ≤ 100000) (hc : c + 1 = c') (hs : s + N = s') (h4 : c' ≤ (jm i).cells) (h5 : s' ≤ (jm i).slots) (hh : h ++ [.inl (2, N, .inr fun _ => 0)] = h') (kk : GO l E i nx loc (.ref n :: st) h' c' s' Q) : GO l E i pc loc (.int v :: st) h c s Q := J_s hz (by
  subst hn; subst hN; subst hc; subst hs; subst hh
  exact ⟨h1, h2, h3, hv, hv2, h4, h5, kk⟩)
end JR
end
section
theorem z0_0 : jcd 0 0 = some (.iconst 0, 1) := by decide +kernel
theorem z0_1 : jcd 0 1 = some (.istore 2, 2) := by decide +kernel
theorem z0_2 : jcd 0 2 = some (.aload 0, 3) := by decide +kernel
theorem z0_3 : jcd 0 3 = some (.arraylength, 4) := by decide +kernel
theorem z0_4 : jcd 0 4 = some (.istore 3, 5) := by decide +kernel
theorem z0_5 : jcd 0 5 = some (.iload 2, 6) := by decide +kernel
theorem z0_6 : jcd 0 6 = some (.iload 3, 7) := by decide +kernel
theorem z0_7 : jcd 0 7 = some (.if_icmp .ge 20, 10) := by decide +kernel
theorem z0_10 : jcd 0 10 = some (.aload 0, 11) := by decide +kernel
theorem z0_11 : jcd 0 11 = some (.iload 2, 12) := by decide +kernel
theorem z0_12 : jcd 0 12 = some (.iload 1, 13) := by decide +kernel
theorem z0_13 : jcd 0 13 = some (.iastore, 14) := by decide +kernel
theorem z0_14 : jcd 0 14 = some (.iinc 2 1, 17) := by decide +kernel
theorem z0_17 : jcd 0 17 = some (.goto 5, 20) := by decide +kernel
theorem z0_20 : jcd 0 20 = some (.return_, 21) := by decide +kernel
theorem z1_0 : jcd 1 0 = some (.iload 0, 1) := by decide +kernel
theorem z1_1 : jcd 1 1 = some (.iload 1, 2) := by decide +kernel
theorem z1_2 : jcd 1 2 = some (.if_icmp .lt 9, 5) := by decide +kernel
theorem z1_5 : jcd 1 5 = some (.iload 0, 6) := by decide +kernel
theorem z1_6 : jcd 1 6 = some (.goto 10, 9) := by decide +kernel
theorem z1_9 : jcd 1 9 = some (.iload 1, 10) := by decide +kernel
theorem z1_10 : jcd 1 10 = some (.ireturn, 11) := by decide +kernel
theorem z2_0 : jcd 2 0 = some (.iload 0, 1) := by decide +kernel
theorem z2_1 : jcd 2 1 = some (.iload 1, 2) := by decide +kernel
theorem z2_2 : jcd 2 2 = some (.if_icmp .gt 9, 5) := by decide +kernel
theorem z2_5 : jcd 2 5 = some (.iload 0, 6) := by decide +kernel
theorem z2_6 : jcd 2 6 = some (.goto 10, 9) := by decide +kernel
theorem z2_9 : jcd 2 9 = some (.iload 1, 10) := by decide +kernel
theorem z2_10 : jcd 2 10 = some (.ireturn, 11) := by decide +kernel
theorem z3_0 : jcd 3 0 = some (.aload 0, 1) := by decide +kernel
theorem z3_1 : jcd 3 1 = some (.invokespecial 3, 4) := by decide +kernel
theorem z3_4 : jcd 3 4 = some (.aload 0, 5) := by decide +kernel
theorem z3_5 : jcd 3 5 = some (.bipush 16, 7) := by decide +kernel
theorem z3_7 : jcd 3 7 = some (.newarray .int, 9) := by decide +kernel
theorem z3_9 : jcd 3 9 = some (.putfield 9, 12) := by decide +kernel
theorem z3_12 : jcd 3 12 = some (.aload 0, 13) := by decide +kernel
theorem z3_13 : jcd 3 13 = some (.bipush 16, 15) := by decide +kernel
theorem z3_15 : jcd 3 15 = some (.newarray .int, 17) := by decide +kernel
theorem z3_17 : jcd 3 17 = some (.putfield 15, 20) := by decide +kernel
theorem z3_20 : jcd 3 20 = some (.aload 0, 21) := by decide +kernel
theorem z3_21 : jcd 3 21 = some (.bipush 16, 23) := by decide +kernel
theorem z3_23 : jcd 3 23 = some (.newarray .int, 25) := by decide +kernel
theorem z3_25 : jcd 3 25 = some (.putfield 18, 28) := by decide +kernel
theorem z3_28 : jcd 3 28 = some (.aload 0, 29) := by decide +kernel
theorem z3_29 : jcd 3 29 = some (.bipush 16, 31) := by decide +kernel
theorem z3_31 : jcd 3 31 = some (.newarray .int, 33) := by decide +kernel
theorem z3_33 : jcd 3 33 = some (.putfield 21, 36) := by decide +kernel
theorem z3_36 : jcd 3 36 = some (.aload 0, 37) := by decide +kernel
theorem z3_37 : jcd 3 37 = some (.bipush 16, 39) := by decide +kernel
theorem z3_39 : jcd 3 39 = some (.newarray .int, 41) := by decide +kernel
theorem z3_41 : jcd 3 41 = some (.putfield 24, 44) := by decide +kernel
theorem z3_44 : jcd 3 44 = some (.aload 0, 45) := by decide +kernel
theorem z3_45 : jcd 3 45 = some (.bipush 16, 47) := by decide +kernel
theorem z3_47 : jcd 3 47 = some (.newarray .int, 49) := by decide +kernel
theorem z3_49 : jcd 3 49 = some (.putfield 27, 52) := by decide +kernel
theorem z3_52 : jcd 3 52 = some (.aload 0, 53) := by decide +kernel
theorem z3_53 : jcd 3 53 = some (.bipush 16, 55) := by decide +kernel
theorem z3_55 : jcd 3 55 = some (.newarray .int, 57) := by decide +kernel
theorem z3_57 : jcd 3 57 = some (.putfield 30, 60) := by decide +kernel
theorem z3_60 : jcd 3 60 = some (.aload 0, 61) := by decide +kernel
theorem z3_61 : jcd 3 61 = some (.bipush 16, 63) := by decide +kernel
theorem z3_63 : jcd 3 63 = some (.newarray .int, 65) := by decide +kernel
theorem z3_65 : jcd 3 65 = some (.putfield 33, 68) := by decide +kernel
theorem z3_68 : jcd 3 68 = some (.aload 0, 69) := by decide +kernel
theorem z3_69 : jcd 3 69 = some (.bipush 16, 71) := by decide +kernel
theorem z3_71 : jcd 3 71 = some (.newarray .boolean, 73) := by decide +kernel
theorem z3_73 : jcd 3 73 = some (.putfield 36, 76) := by decide +kernel
theorem z3_76 : jcd 3 76 = some (.return_, 77) := by decide +kernel
theorem z4_0 : jcd 4 0 = some (.aload 0, 1) := by decide +kernel
theorem z4_1 : jcd 4 1 = some (.getfield 40, 4) := by decide +kernel
theorem z4_4 : jcd 4 4 = some (.bipush 16, 6) := by decide +kernel
theorem z4_6 : jcd 4 6 = some (.if_icmp .lt 13, 9) := by decide +kernel
theorem z4_9 : jcd 4 9 = some (.iconst 1, 10) := by decide +kernel
theorem z4_10 : jcd 4 10 = some (.goto 14, 13) := by decide +kernel
theorem z4_13 : jcd 4 13 = some (.iconst 0, 14) := by decide +kernel
theorem z4_14 : jcd 4 14 = some (.ireturn, 15) := by decide +kernel
theorem z5_0 : jcd 5 0 = some (.aload 0, 1) := by decide +kernel
theorem z5_1 : jcd 5 1 = some (.getfield 40, 4) := by decide +kernel
theorem z5_4 : jcd 5 4 = some (.istore 4, 6) := by decide +kernel
theorem z5_6 : jcd 5 6 = some (.aload 0, 7) := by decide +kernel
theorem z5_7 : jcd 5 7 = some (.getfield 9, 10) := by decide +kernel
theorem z5_10 : jcd 5 10 = some (.iload 4, 12) := by decide +kernel
theorem z5_12 : jcd 5 12 = some (.iload 1, 13) := by decide +kernel
theorem z5_13 : jcd 5 13 = some (.iastore, 14) := by decide +kernel
theorem z5_14 : jcd 5 14 = some (.aload 0, 15) := by decide +kernel
theorem z5_15 : jcd 5 15 = some (.getfield 15, 18) := by decide +kernel
theorem z5_18 : jcd 5 18 = some (.iload 4, 20) := by decide +kernel
theorem z5_20 : jcd 5 20 = some (.iload 2, 21) := by decide +kernel
theorem z5_21 : jcd 5 21 = some (.iastore, 22) := by decide +kernel
theorem z5_22 : jcd 5 22 = some (.aload 0, 23) := by decide +kernel
theorem z5_23 : jcd 5 23 = some (.getfield 18, 26) := by decide +kernel
theorem z5_26 : jcd 5 26 = some (.iload 4, 28) := by decide +kernel
theorem z5_28 : jcd 5 28 = some (.iload 3, 29) := by decide +kernel
theorem z5_29 : jcd 5 29 = some (.iastore, 30) := by decide +kernel
theorem z5_30 : jcd 5 30 = some (.aload 0, 31) := by decide +kernel
theorem z5_31 : jcd 5 31 = some (.getfield 21, 34) := by decide +kernel
theorem z5_34 : jcd 5 34 = some (.iload 4, 36) := by decide +kernel
theorem z5_36 : jcd 5 36 = some (.iconst 3, 37) := by decide +kernel
theorem z5_37 : jcd 5 37 = some (.iastore, 38) := by decide +kernel
theorem z5_38 : jcd 5 38 = some (.aload 0, 39) := by decide +kernel
theorem z5_39 : jcd 5 39 = some (.dup, 40) := by decide +kernel
theorem z5_40 : jcd 5 40 = some (.getfield 40, 43) := by decide +kernel
theorem z5_43 : jcd 5 43 = some (.iconst 1, 44) := by decide +kernel
theorem z5_44 : jcd 5 44 = some (.iadd, 45) := by decide +kernel
theorem z5_45 : jcd 5 45 = some (.putfield 40, 48) := by decide +kernel
theorem z5_48 : jcd 5 48 = some (.iload 4, 50) := by decide +kernel
theorem z5_50 : jcd 5 50 = some (.ireturn, 51) := by decide +kernel
theorem z6_0 : jcd 6 0 = some (.iload 1, 1) := by decide +kernel
theorem z6_1 : jcd 6 1 = some (.iload 2, 2) := by decide +kernel
theorem z6_2 : jcd 6 2 = some (.if_icmp .eq 18, 5) := by decide +kernel
theorem z6_5 : jcd 6 5 = some (.aload 0, 6) := by decide +kernel
theorem z6_6 : jcd 6 6 = some (.getfield 27, 9) := by decide +kernel
theorem z6_9 : jcd 6 9 = some (.iload 2, 10) := by decide +kernel
theorem z6_10 : jcd 6 10 = some (.iaload, 11) := by decide +kernel
theorem z6_11 : jcd 6 11 = some (.iload 1, 12) := by decide +kernel
theorem z6_12 : jcd 6 12 = some (.invokestatic 44, 15) := by decide +kernel
theorem z6_15 : jcd 6 15 = some (.ifCond .eq 22, 18) := by decide +kernel
theorem z6_18 : jcd 6 18 = some (.iconst 1, 19) := by decide +kernel
theorem z6_19 : jcd 6 19 = some (.goto 23, 22) := by decide +kernel
theorem z6_22 : jcd 6 22 = some (.iconst 0, 23) := by decide +kernel
theorem z6_23 : jcd 6 23 = some (.ireturn, 24) := by decide +kernel
theorem z7_0 : jcd 7 0 = some (.aload 0, 1) := by decide +kernel
theorem z7_1 : jcd 7 1 = some (.getfield 27, 4) := by decide +kernel
theorem z7_4 : jcd 7 4 = some (.iload 2, 5) := by decide +kernel
theorem z7_5 : jcd 7 5 = some (.iaload, 6) := by decide +kernel
theorem z7_6 : jcd 7 6 = some (.iconst 1, 7) := by decide +kernel
theorem z7_7 : jcd 7 7 = some (.iload 2, 8) := by decide +kernel
theorem z7_8 : jcd 7 8 = some (.ishl, 9) := by decide +kernel
theorem z7_9 : jcd 7 9 = some (.ior, 10) := by decide +kernel
theorem z7_10 : jcd 7 10 = some (.istore 3, 11) := by decide +kernel
theorem z7_11 : jcd 7 11 = some (.aload 0, 12) := by decide +kernel
theorem z7_12 : jcd 7 12 = some (.getfield 24, 15) := by decide +kernel
theorem z7_15 : jcd 7 15 = some (.iload 1, 16) := by decide +kernel
theorem z7_16 : jcd 7 16 = some (.dup2, 17) := by decide +kernel
theorem z7_17 : jcd 7 17 = some (.iaload, 18) := by decide +kernel
theorem z7_18 : jcd 7 18 = some (.iconst 1, 19) := by decide +kernel
theorem z7_19 : jcd 7 19 = some (.iload 2, 20) := by decide +kernel
theorem z7_20 : jcd 7 20 = some (.ishl, 21) := by decide +kernel
theorem z7_21 : jcd 7 21 = some (.ior, 22) := by decide +kernel
theorem z7_22 : jcd 7 22 = some (.iastore, 23) := by decide +kernel
theorem z7_23 : jcd 7 23 = some (.iconst 0, 24) := by decide +kernel
theorem z7_24 : jcd 7 24 = some (.istore 4, 26) := by decide +kernel
theorem z7_26 : jcd 7 26 = some (.iload 4, 28) := by decide +kernel
theorem z7_28 : jcd 7 28 = some (.aload 0, 29) := by decide +kernel
theorem z7_29 : jcd 7 29 = some (.getfield 40, 32) := by decide +kernel
theorem z7_32 : jcd 7 32 = some (.if_icmp .ge 72, 35) := by decide +kernel
theorem z7_35 : jcd 7 35 = some (.iload 4, 37) := by decide +kernel
theorem z7_37 : jcd 7 37 = some (.iload 1, 38) := by decide +kernel
theorem z7_38 : jcd 7 38 = some (.if_icmp .eq 55, 41) := by decide +kernel
theorem z7_41 : jcd 7 41 = some (.aload 0, 42) := by decide +kernel
theorem z7_42 : jcd 7 42 = some (.getfield 27, 45) := by decide +kernel
theorem z7_45 : jcd 7 45 = some (.iload 4, 47) := by decide +kernel
theorem z7_47 : jcd 7 47 = some (.iaload, 48) := by decide +kernel
theorem z7_48 : jcd 7 48 = some (.iload 1, 49) := by decide +kernel
theorem z7_49 : jcd 7 49 = some (.invokestatic 44, 52) := by decide +kernel
theorem z7_52 : jcd 7 52 = some (.ifCond .eq 66, 55) := by decide +kernel
theorem z7_55 : jcd 7 55 = some (.aload 0, 56) := by decide +kernel
theorem z7_56 : jcd 7 56 = some (.getfield 27, 59) := by decide +kernel
theorem z7_59 : jcd 7 59 = some (.iload 4, 61) := by decide +kernel
theorem z7_61 : jcd 7 61 = some (.dup2, 62) := by decide +kernel
theorem z7_62 : jcd 7 62 = some (.iaload, 63) := by decide +kernel
theorem z7_63 : jcd 7 63 = some (.iload 3, 64) := by decide +kernel
theorem z7_64 : jcd 7 64 = some (.ior, 65) := by decide +kernel
theorem z7_65 : jcd 7 65 = some (.iastore, 66) := by decide +kernel
theorem z7_66 : jcd 7 66 = some (.iinc 4 1, 69) := by decide +kernel
theorem z7_69 : jcd 7 69 = some (.goto 26, 72) := by decide +kernel
theorem z7_72 : jcd 7 72 = some (.return_, 73) := by decide +kernel
theorem z8_0 : jcd 8 0 = some (.aload 0, 1) := by decide +kernel
theorem z8_1 : jcd 8 1 = some (.getfield 36, 4) := by decide +kernel
theorem z8_4 : jcd 8 4 = some (.iload 1, 5) := by decide +kernel
theorem z8_5 : jcd 8 5 = some (.iconst 1, 6) := by decide +kernel
theorem z8_6 : jcd 8 6 = some (.bastore, 7) := by decide +kernel
theorem z8_7 : jcd 8 7 = some (.aload 0, 8) := by decide +kernel
theorem z8_8 : jcd 8 8 = some (.getfield 33, 11) := by decide +kernel
theorem z8_11 : jcd 8 11 = some (.iload 1, 12) := by decide +kernel
theorem z8_12 : jcd 8 12 = some (.dup2, 13) := by decide +kernel
theorem z8_13 : jcd 8 13 = some (.iaload, 14) := by decide +kernel
theorem z8_14 : jcd 8 14 = some (.iconst 1, 15) := by decide +kernel
theorem z8_15 : jcd 8 15 = some (.iadd, 16) := by decide +kernel
theorem z8_16 : jcd 8 16 = some (.iastore, 17) := by decide +kernel
theorem z8_17 : jcd 8 17 = some (.return_, 18) := by decide +kernel
theorem z9_0 : jcd 9 0 = some (.aload 0, 1) := by decide +kernel
theorem z9_1 : jcd 9 1 = some (.getfield 33, 4) := by decide +kernel
theorem z9_4 : jcd 9 4 = some (.iconst 0, 5) := by decide +kernel
theorem z9_5 : jcd 9 5 = some (.invokestatic 48, 8) := by decide +kernel
theorem z9_8 : jcd 9 8 = some (.return_, 9) := by decide +kernel
theorem z10_0 : jcd 10 0 = some (.aload 0, 1) := by decide +kernel
theorem z10_1 : jcd 10 1 = some (.invokespecial 3, 4) := by decide +kernel
theorem z10_4 : jcd 10 4 = some (.aload 0, 5) := by decide +kernel
theorem z10_5 : jcd 10 5 = some (.sipush 300, 8) := by decide +kernel
theorem z10_8 : jcd 10 8 = some (.newarray .int, 10) := by decide +kernel
theorem z10_10 : jcd 10 10 = some (.putfield 9, 13) := by decide +kernel
theorem z10_13 : jcd 10 13 = some (.aload 0, 14) := by decide +kernel
theorem z10_14 : jcd 10 14 = some (.sipush 300, 17) := by decide +kernel
theorem z10_17 : jcd 10 17 = some (.newarray .int, 19) := by decide +kernel
theorem z10_19 : jcd 10 19 = some (.putfield 15, 22) := by decide +kernel
theorem z10_22 : jcd 10 22 = some (.aload 0, 23) := by decide +kernel
theorem z10_23 : jcd 10 23 = some (.sipush 300, 26) := by decide +kernel
theorem z10_26 : jcd 10 26 = some (.newarray .int, 28) := by decide +kernel
theorem z10_28 : jcd 10 28 = some (.putfield 18, 31) := by decide +kernel
theorem z10_31 : jcd 10 31 = some (.aload 0, 32) := by decide +kernel
theorem z10_32 : jcd 10 32 = some (.sipush 320, 35) := by decide +kernel
theorem z10_35 : jcd 10 35 = some (.newarray .int, 37) := by decide +kernel
theorem z10_37 : jcd 10 37 = some (.putfield 21, 40) := by decide +kernel
theorem z10_40 : jcd 10 40 = some (.aload 0, 41) := by decide +kernel
theorem z10_41 : jcd 10 41 = some (.sipush 320, 44) := by decide +kernel
theorem z10_44 : jcd 10 44 = some (.newarray .int, 46) := by decide +kernel
theorem z10_46 : jcd 10 46 = some (.putfield 24, 49) := by decide +kernel
theorem z10_49 : jcd 10 49 = some (.aload 0, 50) := by decide +kernel
theorem z10_50 : jcd 10 50 = some (.sipush 320, 53) := by decide +kernel
theorem z10_53 : jcd 10 53 = some (.newarray .int, 55) := by decide +kernel
theorem z10_55 : jcd 10 55 = some (.putfield 27, 58) := by decide +kernel
theorem z10_58 : jcd 10 58 = some (.aload 0, 59) := by decide +kernel
theorem z10_59 : jcd 10 59 = some (.sipush 320, 62) := by decide +kernel
theorem z10_62 : jcd 10 62 = some (.newarray .int, 64) := by decide +kernel
theorem z10_64 : jcd 10 64 = some (.putfield 30, 67) := by decide +kernel
theorem z10_67 : jcd 10 67 = some (.aload 0, 68) := by decide +kernel
theorem z10_68 : jcd 10 68 = some (.getfield 21, 71) := by decide +kernel
theorem z10_71 : jcd 10 71 = some (.iconst (-1), 72) := by decide +kernel
theorem z10_72 : jcd 10 72 = some (.invokestatic 33, 75) := by decide +kernel
theorem z10_75 : jcd 10 75 = some (.aload 0, 76) := by decide +kernel
theorem z10_76 : jcd 10 76 = some (.getfield 30, 79) := by decide +kernel
theorem z10_79 : jcd 10 79 = some (.iconst (-1), 80) := by decide +kernel
theorem z10_80 : jcd 10 80 = some (.invokestatic 33, 83) := by decide +kernel
theorem z10_83 : jcd 10 83 = some (.return_, 84) := by decide +kernel
theorem z11_0 : jcd 11 0 = some (.aload 0, 1) := by decide +kernel
theorem z11_1 : jcd 11 1 = some (.getfield 39, 4) := by decide +kernel
theorem z11_4 : jcd 11 4 = some (.sipush 300, 7) := by decide +kernel
theorem z11_7 : jcd 11 7 = some (.if_icmp .lt 14, 10) := by decide +kernel
theorem z11_10 : jcd 11 10 = some (.iconst 1, 11) := by decide +kernel
theorem z11_11 : jcd 11 11 = some (.goto 15, 14) := by decide +kernel
theorem z11_14 : jcd 11 14 = some (.iconst 0, 15) := by decide +kernel
theorem z11_15 : jcd 11 15 = some (.ireturn, 16) := by decide +kernel
theorem z12_0 : jcd 12 0 = some (.aload 0, 1) := by decide +kernel
theorem z12_1 : jcd 12 1 = some (.getfield 39, 4) := by decide +kernel
theorem z12_4 : jcd 12 4 = some (.istore 4, 6) := by decide +kernel
theorem z12_6 : jcd 12 6 = some (.aload 0, 7) := by decide +kernel
theorem z12_7 : jcd 12 7 = some (.dup, 8) := by decide +kernel
theorem z12_8 : jcd 12 8 = some (.getfield 39, 11) := by decide +kernel
theorem z12_11 : jcd 12 11 = some (.iconst 1, 12) := by decide +kernel
theorem z12_12 : jcd 12 12 = some (.iadd, 13) := by decide +kernel
theorem z12_13 : jcd 12 13 = some (.putfield 39, 16) := by decide +kernel
theorem z12_16 : jcd 12 16 = some (.aload 0, 17) := by decide +kernel
theorem z12_17 : jcd 12 17 = some (.getfield 9, 20) := by decide +kernel
theorem z12_20 : jcd 12 20 = some (.iload 4, 22) := by decide +kernel
theorem z12_22 : jcd 12 22 = some (.iload 2, 23) := by decide +kernel
theorem z12_23 : jcd 12 23 = some (.iastore, 24) := by decide +kernel
theorem z12_24 : jcd 12 24 = some (.aload 0, 25) := by decide +kernel
theorem z12_25 : jcd 12 25 = some (.getfield 15, 28) := by decide +kernel
theorem z12_28 : jcd 12 28 = some (.iload 4, 30) := by decide +kernel
theorem z12_30 : jcd 12 30 = some (.aload 0, 31) := by decide +kernel
theorem z12_31 : jcd 12 31 = some (.getfield 21, 34) := by decide +kernel
theorem z12_34 : jcd 12 34 = some (.iload 1, 35) := by decide +kernel
theorem z12_35 : jcd 12 35 = some (.iaload, 36) := by decide +kernel
theorem z12_36 : jcd 12 36 = some (.iastore, 37) := by decide +kernel
theorem z12_37 : jcd 12 37 = some (.aload 0, 38) := by decide +kernel
theorem z12_38 : jcd 12 38 = some (.getfield 24, 41) := by decide +kernel
theorem z12_41 : jcd 12 41 = some (.iload 1, 42) := by decide +kernel
theorem z12_42 : jcd 12 42 = some (.iload 2, 43) := by decide +kernel
theorem z12_43 : jcd 12 43 = some (.iastore, 44) := by decide +kernel
theorem z12_44 : jcd 12 44 = some (.iload 3, 45) := by decide +kernel
theorem z12_45 : jcd 12 45 = some (.ifCond .eq 76, 48) := by decide +kernel
theorem z12_48 : jcd 12 48 = some (.aload 0, 49) := by decide +kernel
theorem z12_49 : jcd 12 49 = some (.dup, 50) := by decide +kernel
theorem z12_50 : jcd 12 50 = some (.getfield 43, 53) := by decide +kernel
theorem z12_53 : jcd 12 53 = some (.iconst 1, 54) := by decide +kernel
theorem z12_54 : jcd 12 54 = some (.iadd, 55) := by decide +kernel
theorem z12_55 : jcd 12 55 = some (.putfield 43, 58) := by decide +kernel
theorem z12_58 : jcd 12 58 = some (.aload 0, 59) := by decide +kernel
theorem z12_59 : jcd 12 59 = some (.getfield 21, 62) := by decide +kernel
theorem z12_62 : jcd 12 62 = some (.iload 1, 63) := by decide +kernel
theorem z12_63 : jcd 12 63 = some (.iload 4, 65) := by decide +kernel
theorem z12_65 : jcd 12 65 = some (.iastore, 66) := by decide +kernel
theorem z12_66 : jcd 12 66 = some (.aload 0, 67) := by decide +kernel
theorem z12_67 : jcd 12 67 = some (.getfield 27, 70) := by decide +kernel
theorem z12_70 : jcd 12 70 = some (.iload 1, 71) := by decide +kernel
theorem z12_71 : jcd 12 71 = some (.iconst 0, 72) := by decide +kernel
theorem z12_72 : jcd 12 72 = some (.iastore, 73) := by decide +kernel
theorem z12_73 : jcd 12 73 = some (.goto 86, 76) := by decide +kernel
theorem z12_76 : jcd 12 76 = some (.aload 0, 77) := by decide +kernel
theorem z12_77 : jcd 12 77 = some (.getfield 27, 80) := by decide +kernel
theorem z12_80 : jcd 12 80 = some (.iload 1, 81) := by decide +kernel
theorem z12_81 : jcd 12 81 = some (.dup2, 82) := by decide +kernel
theorem z12_82 : jcd 12 82 = some (.iaload, 83) := by decide +kernel
theorem z12_83 : jcd 12 83 = some (.iconst 1, 84) := by decide +kernel
theorem z12_84 : jcd 12 84 = some (.iadd, 85) := by decide +kernel
theorem z12_85 : jcd 12 85 = some (.iastore, 86) := by decide +kernel
theorem z12_86 : jcd 12 86 = some (.iload 4, 88) := by decide +kernel
theorem z12_88 : jcd 12 88 = some (.ireturn, 89) := by decide +kernel
theorem z13_0 : jcd 13 0 = some (.aload 0, 1) := by decide +kernel
theorem z13_1 : jcd 13 1 = some (.getfield 21, 4) := by decide +kernel
theorem z13_4 : jcd 13 4 = some (.iload 1, 5) := by decide +kernel
theorem z13_5 : jcd 13 5 = some (.iaload, 6) := by decide +kernel
theorem z13_6 : jcd 13 6 = some (.istore 4, 8) := by decide +kernel
theorem z13_8 : jcd 13 8 = some (.iload 4, 10) := by decide +kernel
theorem z13_10 : jcd 13 10 = some (.iconst (-1), 11) := by decide +kernel
theorem z13_11 : jcd 13 11 = some (.if_icmp .ne 16, 14) := by decide +kernel
theorem z13_14 : jcd 13 14 = some (.iconst 0, 15) := by decide +kernel
theorem z13_15 : jcd 13 15 = some (.ireturn, 16) := by decide +kernel
theorem z13_16 : jcd 13 16 = some (.aload 0, 17) := by decide +kernel
theorem z13_17 : jcd 13 17 = some (.getfield 30, 20) := by decide +kernel
theorem z13_20 : jcd 13 20 = some (.iload 1, 21) := by decide +kernel
theorem z13_21 : jcd 13 21 = some (.iaload, 22) := by decide +kernel
theorem z13_22 : jcd 13 22 = some (.iload 2, 23) := by decide +kernel
theorem z13_23 : jcd 13 23 = some (.if_icmp .eq 48, 26) := by decide +kernel
theorem z13_26 : jcd 13 26 = some (.aload 0, 27) := by decide +kernel
theorem z13_27 : jcd 13 27 = some (.getfield 18, 30) := by decide +kernel
theorem z13_30 : jcd 13 30 = some (.iload 4, 32) := by decide +kernel
theorem z13_32 : jcd 13 32 = some (.iaload, 33) := by decide +kernel
theorem z13_33 : jcd 13 33 = some (.iload 3, 34) := by decide +kernel
theorem z13_34 : jcd 13 34 = some (.if_icmp .ge 48, 37) := by decide +kernel
theorem z13_37 : jcd 13 37 = some (.aload 0, 38) := by decide +kernel
theorem z13_38 : jcd 13 38 = some (.getfield 18, 41) := by decide +kernel
theorem z13_41 : jcd 13 41 = some (.iload 4, 43) := by decide +kernel
theorem z13_43 : jcd 13 43 = some (.dup2, 44) := by decide +kernel
theorem z13_44 : jcd 13 44 = some (.iaload, 45) := by decide +kernel
theorem z13_45 : jcd 13 45 = some (.iconst 1, 46) := by decide +kernel
theorem z13_46 : jcd 13 46 = some (.iadd, 47) := by decide +kernel
theorem z13_47 : jcd 13 47 = some (.iastore, 48) := by decide +kernel
theorem z13_48 : jcd 13 48 = some (.aload 0, 49) := by decide +kernel
theorem z13_49 : jcd 13 49 = some (.getfield 30, 52) := by decide +kernel
theorem z13_52 : jcd 13 52 = some (.iload 1, 53) := by decide +kernel
theorem z13_53 : jcd 13 53 = some (.iload 2, 54) := by decide +kernel
theorem z13_54 : jcd 13 54 = some (.iastore, 55) := by decide +kernel
theorem z13_55 : jcd 13 55 = some (.aload 0, 56) := by decide +kernel
theorem z13_56 : jcd 13 56 = some (.getfield 18, 59) := by decide +kernel
theorem z13_59 : jcd 13 59 = some (.iload 4, 61) := by decide +kernel
theorem z13_61 : jcd 13 61 = some (.iaload, 62) := by decide +kernel
theorem z13_62 : jcd 13 62 = some (.ireturn, 63) := by decide +kernel
theorem z14_0 : jcd 14 0 = some (.aload 0, 1) := by decide +kernel
theorem z14_1 : jcd 14 1 = some (.getfield 21, 4) := by decide +kernel
theorem z14_4 : jcd 14 4 = some (.iload 1, 5) := by decide +kernel
theorem z14_5 : jcd 14 5 = some (.iaload, 6) := by decide +kernel
theorem z14_6 : jcd 14 6 = some (.istore 3, 7) := by decide +kernel
theorem z14_7 : jcd 14 7 = some (.iconst 0, 8) := by decide +kernel
theorem z14_8 : jcd 14 8 = some (.istore 4, 10) := by decide +kernel
theorem z14_10 : jcd 14 10 = some (.iload 4, 12) := by decide +kernel
theorem z14_12 : jcd 14 12 = some (.aload 0, 13) := by decide +kernel
theorem z14_13 : jcd 14 13 = some (.getfield 39, 16) := by decide +kernel
theorem z14_16 : jcd 14 16 = some (.if_icmp .ge 49, 19) := by decide +kernel
theorem z14_19 : jcd 14 19 = some (.iload 3, 20) := by decide +kernel
theorem z14_20 : jcd 14 20 = some (.iconst (-1), 21) := by decide +kernel
theorem z14_21 : jcd 14 21 = some (.if_icmp .eq 49, 24) := by decide +kernel
theorem z14_24 : jcd 14 24 = some (.aload 0, 25) := by decide +kernel
theorem z14_25 : jcd 14 25 = some (.getfield 9, 28) := by decide +kernel
theorem z14_28 : jcd 14 28 = some (.iload 3, 29) := by decide +kernel
theorem z14_29 : jcd 14 29 = some (.iaload, 30) := by decide +kernel
theorem z14_30 : jcd 14 30 = some (.iload 2, 31) := by decide +kernel
theorem z14_31 : jcd 14 31 = some (.if_icmp .gt 36, 34) := by decide +kernel
theorem z14_34 : jcd 14 34 = some (.iload 3, 35) := by decide +kernel
theorem z14_35 : jcd 14 35 = some (.ireturn, 36) := by decide +kernel
theorem z14_36 : jcd 14 36 = some (.aload 0, 37) := by decide +kernel
theorem z14_37 : jcd 14 37 = some (.getfield 15, 40) := by decide +kernel
theorem z14_40 : jcd 14 40 = some (.iload 3, 41) := by decide +kernel
theorem z14_41 : jcd 14 41 = some (.iaload, 42) := by decide +kernel
theorem z14_42 : jcd 14 42 = some (.istore 3, 43) := by decide +kernel
theorem z14_43 : jcd 14 43 = some (.iinc 4 1, 46) := by decide +kernel
theorem z14_46 : jcd 14 46 = some (.goto 10, 49) := by decide +kernel
theorem z14_49 : jcd 14 49 = some (.iconst (-1), 50) := by decide +kernel
theorem z14_50 : jcd 14 50 = some (.ireturn, 51) := by decide +kernel
theorem z15_0 : jcd 15 0 = some (.aload 0, 1) := by decide +kernel
theorem z15_1 : jcd 15 1 = some (.invokespecial 3, 4) := by decide +kernel
theorem z15_4 : jcd 15 4 = some (.aload 0, 5) := by decide +kernel
theorem z15_5 : jcd 15 5 = some (.bipush 12, 7) := by decide +kernel
theorem z15_7 : jcd 15 7 = some (.newarray .int, 9) := by decide +kernel
theorem z15_9 : jcd 15 9 = some (.putfield 9, 12) := by decide +kernel
theorem z15_12 : jcd 15 12 = some (.aload 0, 13) := by decide +kernel
theorem z15_13 : jcd 15 13 = some (.bipush 12, 15) := by decide +kernel
theorem z15_15 : jcd 15 15 = some (.newarray .int, 17) := by decide +kernel
theorem z15_17 : jcd 15 17 = some (.putfield 15, 20) := by decide +kernel
theorem z15_20 : jcd 15 20 = some (.aload 0, 21) := by decide +kernel
theorem z15_21 : jcd 15 21 = some (.bipush 20, 23) := by decide +kernel
theorem z15_23 : jcd 15 23 = some (.newarray .int, 25) := by decide +kernel
theorem z15_25 : jcd 15 25 = some (.putfield 18, 28) := by decide +kernel
theorem z15_28 : jcd 15 28 = some (.aload 0, 29) := by decide +kernel
theorem z15_29 : jcd 15 29 = some (.bipush 12, 31) := by decide +kernel
theorem z15_31 : jcd 15 31 = some (.newarray .int, 33) := by decide +kernel
theorem z15_33 : jcd 15 33 = some (.putfield 21, 36) := by decide +kernel
theorem z15_36 : jcd 15 36 = some (.aload 0, 37) := by decide +kernel
theorem z15_37 : jcd 15 37 = some (.bipush 20, 39) := by decide +kernel
theorem z15_39 : jcd 15 39 = some (.newarray .int, 41) := by decide +kernel
theorem z15_41 : jcd 15 41 = some (.putfield 24, 44) := by decide +kernel
theorem z15_44 : jcd 15 44 = some (.return_, 45) := by decide +kernel
theorem z16_0 : jcd 16 0 = some (.aload 0, 1) := by decide +kernel
theorem z16_1 : jcd 16 1 = some (.iload 1, 2) := by decide +kernel
theorem z16_2 : jcd 16 2 = some (.putfield 27, 5) := by decide +kernel
theorem z16_5 : jcd 16 5 = some (.aload 0, 6) := by decide +kernel
theorem z16_6 : jcd 16 6 = some (.getfield 15, 9) := by decide +kernel
theorem z16_9 : jcd 16 9 = some (.iconst (-1), 10) := by decide +kernel
theorem z16_10 : jcd 16 10 = some (.invokestatic 31, 13) := by decide +kernel
theorem z16_13 : jcd 16 13 = some (.aload 0, 14) := by decide +kernel
theorem z16_14 : jcd 16 14 = some (.getfield 18, 17) := by decide +kernel
theorem z16_17 : jcd 16 17 = some (.iconst (-1), 18) := by decide +kernel
theorem z16_18 : jcd 16 18 = some (.invokestatic 31, 21) := by decide +kernel
theorem z16_21 : jcd 16 21 = some (.return_, 22) := by decide +kernel
theorem z17_0 : jcd 17 0 = some (.iconst 0, 1) := by decide +kernel
theorem z17_1 : jcd 17 1 = some (.istore 1, 2) := by decide +kernel
theorem z17_2 : jcd 17 2 = some (.iconst 0, 3) := by decide +kernel
theorem z17_3 : jcd 17 3 = some (.istore 2, 4) := by decide +kernel
theorem z17_4 : jcd 17 4 = some (.iload 2, 5) := by decide +kernel
theorem z17_5 : jcd 17 5 = some (.aload 0, 6) := by decide +kernel
theorem z17_6 : jcd 17 6 = some (.getfield 27, 9) := by decide +kernel
theorem z17_9 : jcd 17 9 = some (.if_icmp .ge 30, 12) := by decide +kernel
theorem z17_12 : jcd 17 12 = some (.aload 0, 13) := by decide +kernel
theorem z17_13 : jcd 17 13 = some (.iload 2, 14) := by decide +kernel
theorem z17_14 : jcd 17 14 = some (.iconst 0, 15) := by decide +kernel
theorem z17_15 : jcd 17 15 = some (.invokevirtual 37, 18) := by decide +kernel
theorem z17_18 : jcd 17 18 = some (.ifCond .eq 24, 21) := by decide +kernel
theorem z17_21 : jcd 17 21 = some (.iinc 1 1, 24) := by decide +kernel
theorem z17_24 : jcd 17 24 = some (.iinc 2 1, 27) := by decide +kernel
theorem z17_27 : jcd 17 27 = some (.goto 4, 30) := by decide +kernel
theorem z17_30 : jcd 17 30 = some (.iconst 0, 31) := by decide +kernel
theorem z17_31 : jcd 17 31 = some (.istore 2, 32) := by decide +kernel
theorem z17_32 : jcd 17 32 = some (.iconst 0, 33) := by decide +kernel
theorem z17_33 : jcd 17 33 = some (.istore 3, 34) := by decide +kernel
theorem z17_34 : jcd 17 34 = some (.iload 3, 35) := by decide +kernel
theorem z17_35 : jcd 17 35 = some (.aload 0, 36) := by decide +kernel
theorem z17_36 : jcd 17 36 = some (.getfield 27, 39) := by decide +kernel
theorem z17_39 : jcd 17 39 = some (.if_icmp .ge 57, 42) := by decide +kernel
theorem z17_42 : jcd 17 42 = some (.iload 2, 43) := by decide +kernel
theorem z17_43 : jcd 17 43 = some (.aload 0, 44) := by decide +kernel
theorem z17_44 : jcd 17 44 = some (.iload 3, 45) := by decide +kernel
theorem z17_45 : jcd 17 45 = some (.iload 2, 46) := by decide +kernel
theorem z17_46 : jcd 17 46 = some (.invokevirtual 41, 49) := by decide +kernel
theorem z17_49 : jcd 17 49 = some (.ior, 50) := by decide +kernel
theorem z17_50 : jcd 17 50 = some (.istore 2, 51) := by decide +kernel
theorem z17_51 : jcd 17 51 = some (.iinc 3 1, 54) := by decide +kernel
theorem z17_54 : jcd 17 54 = some (.goto 34, 57) := by decide +kernel
theorem z17_57 : jcd 17 57 = some (.iload 1, 58) := by decide +kernel
theorem z17_58 : jcd 17 58 = some (.ireturn, 59) := by decide +kernel
theorem z18_0 : jcd 18 0 = some (.aload 0, 1) := by decide +kernel
theorem z18_1 : jcd 18 1 = some (.getfield 9, 4) := by decide +kernel
theorem z18_4 : jcd 18 4 = some (.iload 1, 5) := by decide +kernel
theorem z18_5 : jcd 18 5 = some (.iaload, 6) := by decide +kernel
theorem z18_6 : jcd 18 6 = some (.iload 2, 7) := by decide +kernel
theorem z18_7 : jcd 18 7 = some (.iconst (-1), 8) := by decide +kernel
theorem z18_8 : jcd 18 8 = some (.ixor, 9) := by decide +kernel
theorem z18_9 : jcd 18 9 = some (.iand, 10) := by decide +kernel
theorem z18_10 : jcd 18 10 = some (.istore 3, 11) := by decide +kernel
theorem z18_11 : jcd 18 11 = some (.iconst 0, 12) := by decide +kernel
theorem z18_12 : jcd 18 12 = some (.istore 4, 14) := by decide +kernel
theorem z18_14 : jcd 18 14 = some (.iload 4, 16) := by decide +kernel
theorem z18_16 : jcd 18 16 = some (.bipush 20, 18) := by decide +kernel
theorem z18_18 : jcd 18 18 = some (.if_icmp .ge 52, 21) := by decide +kernel
theorem z18_21 : jcd 18 21 = some (.iload 3, 22) := by decide +kernel
theorem z18_22 : jcd 18 22 = some (.iload 4, 24) := by decide +kernel
theorem z18_24 : jcd 18 24 = some (.invokestatic 45, 27) := by decide +kernel
theorem z18_27 : jcd 18 27 = some (.ifCond .eq 46, 30) := by decide +kernel
theorem z18_30 : jcd 18 30 = some (.aload 0, 31) := by decide +kernel
theorem z18_31 : jcd 18 31 = some (.iload 1, 32) := by decide +kernel
theorem z18_32 : jcd 18 32 = some (.iload 4, 34) := by decide +kernel
theorem z18_34 : jcd 18 34 = some (.iload 2, 35) := by decide +kernel
theorem z18_35 : jcd 18 35 = some (.invokevirtual 48, 38) := by decide +kernel
theorem z18_38 : jcd 18 38 = some (.ifCond .eq 46, 41) := by decide +kernel
theorem z18_41 : jcd 18 41 = some (.iconst 1, 42) := by decide +kernel
theorem z18_42 : jcd 18 42 = some (.iload 4, 44) := by decide +kernel
theorem z18_44 : jcd 18 44 = some (.ishl, 45) := by decide +kernel
theorem z18_45 : jcd 18 45 = some (.ireturn, 46) := by decide +kernel
theorem z18_46 : jcd 18 46 = some (.iinc 4 1, 49) := by decide +kernel
theorem z18_49 : jcd 18 49 = some (.goto 14, 52) := by decide +kernel
theorem z18_52 : jcd 18 52 = some (.iconst 0, 53) := by decide +kernel
theorem z18_53 : jcd 18 53 = some (.ireturn, 54) := by decide +kernel
theorem z19_0 : jcd 19 0 = some (.aload 0, 1) := by decide +kernel
theorem z19_1 : jcd 19 1 = some (.getfield 15, 4) := by decide +kernel
theorem z19_4 : jcd 19 4 = some (.iload 1, 5) := by decide +kernel
theorem z19_5 : jcd 19 5 = some (.iaload, 6) := by decide +kernel
theorem z19_6 : jcd 19 6 = some (.istore 4, 8) := by decide +kernel
theorem z19_8 : jcd 19 8 = some (.aload 0, 9) := by decide +kernel
theorem z19_9 : jcd 19 9 = some (.getfield 18, 12) := by decide +kernel
theorem z19_12 : jcd 19 12 = some (.iload 2, 13) := by decide +kernel
theorem z19_13 : jcd 19 13 = some (.iaload, 14) := by decide +kernel
theorem z19_14 : jcd 19 14 = some (.istore 5, 16) := by decide +kernel
theorem z19_16 : jcd 19 16 = some (.iload 4, 18) := by decide +kernel
theorem z19_18 : jcd 19 18 = some (.iload 2, 19) := by decide +kernel
theorem z19_19 : jcd 19 19 = some (.if_icmp .ne 24, 22) := by decide +kernel
theorem z19_22 : jcd 19 22 = some (.iconst 1, 23) := by decide +kernel
theorem z19_23 : jcd 19 23 = some (.ireturn, 24) := by decide +kernel
theorem z19_24 : jcd 19 24 = some (.aload 0, 25) := by decide +kernel
theorem z19_25 : jcd 19 25 = some (.iload 1, 26) := by decide +kernel
theorem z19_26 : jcd 19 26 = some (.iload 4, 28) := by decide +kernel
theorem z19_28 : jcd 19 28 = some (.invokevirtual 52, 31) := by decide +kernel
theorem z19_31 : jcd 19 31 = some (.aload 0, 32) := by decide +kernel
theorem z19_32 : jcd 19 32 = some (.iload 5, 34) := by decide +kernel
theorem z19_34 : jcd 19 34 = some (.iload 2, 35) := by decide +kernel
theorem z19_35 : jcd 19 35 = some (.invokevirtual 52, 38) := by decide +kernel
theorem z19_38 : jcd 19 38 = some (.aload 0, 39) := by decide +kernel
theorem z19_39 : jcd 19 39 = some (.iload 1, 40) := by decide +kernel
theorem z19_40 : jcd 19 40 = some (.iload 2, 41) := by decide +kernel
theorem z19_41 : jcd 19 41 = some (.invokevirtual 56, 44) := by decide +kernel
theorem z19_44 : jcd 19 44 = some (.iload 4, 46) := by decide +kernel
theorem z19_46 : jcd 19 46 = some (.iconst (-1), 47) := by decide +kernel
theorem z19_47 : jcd 19 47 = some (.if_icmp .eq 56, 50) := by decide +kernel
theorem z19_50 : jcd 19 50 = some (.iload 5, 52) := by decide +kernel
theorem z19_52 : jcd 19 52 = some (.iconst (-1), 53) := by decide +kernel
theorem z19_53 : jcd 19 53 = some (.if_icmp .ne 58, 56) := by decide +kernel
theorem z19_56 : jcd 19 56 = some (.iconst 1, 57) := by decide +kernel
theorem z19_57 : jcd 19 57 = some (.ireturn, 58) := by decide +kernel
theorem z19_58 : jcd 19 58 = some (.aload 0, 59) := by decide +kernel
theorem z19_59 : jcd 19 59 = some (.iload 1, 60) := by decide +kernel
theorem z19_60 : jcd 19 60 = some (.iload 3, 61) := by decide +kernel
theorem z19_61 : jcd 19 61 = some (.iconst 1, 62) := by decide +kernel
theorem z19_62 : jcd 19 62 = some (.iload 2, 63) := by decide +kernel
theorem z19_63 : jcd 19 63 = some (.ishl, 64) := by decide +kernel
theorem z19_64 : jcd 19 64 = some (.ior, 65) := by decide +kernel
theorem z19_65 : jcd 19 65 = some (.invokevirtual 59, 68) := by decide +kernel
theorem z19_68 : jcd 19 68 = some (.ifCond .eq 73, 71) := by decide +kernel
theorem z19_71 : jcd 19 71 = some (.iconst 1, 72) := by decide +kernel
theorem z19_72 : jcd 19 72 = some (.ireturn, 73) := by decide +kernel
theorem z19_73 : jcd 19 73 = some (.aload 0, 74) := by decide +kernel
theorem z19_74 : jcd 19 74 = some (.iload 1, 75) := by decide +kernel
theorem z19_75 : jcd 19 75 = some (.iload 4, 77) := by decide +kernel
theorem z19_77 : jcd 19 77 = some (.invokevirtual 56, 80) := by decide +kernel
theorem z19_80 : jcd 19 80 = some (.aload 0, 81) := by decide +kernel
theorem z19_81 : jcd 19 81 = some (.iload 5, 83) := by decide +kernel
theorem z19_83 : jcd 19 83 = some (.iload 2, 84) := by decide +kernel
theorem z19_84 : jcd 19 84 = some (.invokevirtual 56, 87) := by decide +kernel
theorem z19_87 : jcd 19 87 = some (.iconst 0, 88) := by decide +kernel
theorem z19_88 : jcd 19 88 = some (.ireturn, 89) := by decide +kernel
theorem z20_0 : jcd 20 0 = some (.aload 0, 1) := by decide +kernel
theorem z20_1 : jcd 20 1 = some (.getfield 15, 4) := by decide +kernel
theorem z20_4 : jcd 20 4 = some (.iload 1, 5) := by decide +kernel
theorem z20_5 : jcd 20 5 = some (.iload 2, 6) := by decide +kernel
theorem z20_6 : jcd 20 6 = some (.iastore, 7) := by decide +kernel
theorem z20_7 : jcd 20 7 = some (.aload 0, 8) := by decide +kernel
theorem z20_8 : jcd 20 8 = some (.getfield 18, 11) := by decide +kernel
theorem z20_11 : jcd 20 11 = some (.iload 2, 12) := by decide +kernel
theorem z20_12 : jcd 20 12 = some (.iload 1, 13) := by decide +kernel
theorem z20_13 : jcd 20 13 = some (.iastore, 14) := by decide +kernel
theorem z20_14 : jcd 20 14 = some (.return_, 15) := by decide +kernel
theorem z21_0 : jcd 21 0 = some (.iload 1, 1) := by decide +kernel
theorem z21_1 : jcd 21 1 = some (.iconst (-1), 2) := by decide +kernel
theorem z21_2 : jcd 21 2 = some (.if_icmp .eq 24, 5) := by decide +kernel
theorem z21_5 : jcd 21 5 = some (.iload 2, 6) := by decide +kernel
theorem z21_6 : jcd 21 6 = some (.iconst (-1), 7) := by decide +kernel
theorem z21_7 : jcd 21 7 = some (.if_icmp .eq 24, 10) := by decide +kernel
theorem z21_10 : jcd 21 10 = some (.aload 0, 11) := by decide +kernel
theorem z21_11 : jcd 21 11 = some (.getfield 15, 14) := by decide +kernel
theorem z21_14 : jcd 21 14 = some (.iload 1, 15) := by decide +kernel
theorem z21_15 : jcd 21 15 = some (.iconst (-1), 16) := by decide +kernel
theorem z21_16 : jcd 21 16 = some (.iastore, 17) := by decide +kernel
theorem z21_17 : jcd 21 17 = some (.aload 0, 18) := by decide +kernel
theorem z21_18 : jcd 21 18 = some (.getfield 18, 21) := by decide +kernel
theorem z21_21 : jcd 21 21 = some (.iload 2, 22) := by decide +kernel
theorem z21_22 : jcd 21 22 = some (.iconst (-1), 23) := by decide +kernel
theorem z21_23 : jcd 21 23 = some (.iastore, 24) := by decide +kernel
theorem z21_24 : jcd 21 24 = some (.return_, 25) := by decide +kernel
theorem z22_0 : jcd 22 0 = some (.iload 1, 1) := by decide +kernel
theorem z22_1 : jcd 22 1 = some (.iconst 1, 2) := by decide +kernel
theorem z22_2 : jcd 22 2 = some (.iadd, 3) := by decide +kernel
theorem z22_3 : jcd 22 3 = some (.istore 3, 4) := by decide +kernel
theorem z22_4 : jcd 22 4 = some (.iload 3, 5) := by decide +kernel
theorem z22_5 : jcd 22 5 = some (.aload 0, 6) := by decide +kernel
theorem z22_6 : jcd 22 6 = some (.getfield 27, 9) := by decide +kernel
theorem z22_9 : jcd 22 9 = some (.if_icmp .ge 39, 12) := by decide +kernel
theorem z22_12 : jcd 22 12 = some (.aload 0, 13) := by decide +kernel
theorem z22_13 : jcd 22 13 = some (.getfield 15, 16) := by decide +kernel
theorem z22_16 : jcd 22 16 = some (.iload 3, 17) := by decide +kernel
theorem z22_17 : jcd 22 17 = some (.iaload, 18) := by decide +kernel
theorem z22_18 : jcd 22 18 = some (.iconst (-1), 19) := by decide +kernel
theorem z22_19 : jcd 22 19 = some (.if_icmp .ne 33, 22) := by decide +kernel
theorem z22_22 : jcd 22 22 = some (.aload 0, 23) := by decide +kernel
theorem z22_23 : jcd 22 23 = some (.iload 3, 24) := by decide +kernel
theorem z22_24 : jcd 22 24 = some (.iload 2, 25) := by decide +kernel
theorem z22_25 : jcd 22 25 = some (.invokevirtual 37, 28) := by decide +kernel
theorem z22_28 : jcd 22 28 = some (.ifCond .eq 33, 31) := by decide +kernel
theorem z22_31 : jcd 22 31 = some (.iconst 1, 32) := by decide +kernel
theorem z22_32 : jcd 22 32 = some (.ireturn, 33) := by decide +kernel
theorem z22_33 : jcd 22 33 = some (.iinc 3 1, 36) := by decide +kernel
theorem z22_36 : jcd 22 36 = some (.goto 4, 39) := by decide +kernel
theorem z22_39 : jcd 22 39 = some (.iconst 0, 40) := by decide +kernel
theorem z22_40 : jcd 22 40 = some (.ireturn, 41) := by decide +kernel
theorem z23_0 : jcd 23 0 = some (.iload 2, 1) := by decide +kernel
theorem z23_1 : jcd 23 1 = some (.istore 3, 2) := by decide +kernel
theorem z23_2 : jcd 23 2 = some (.iconst 1, 3) := by decide +kernel
theorem z23_3 : jcd 23 3 = some (.istore 4, 5) := by decide +kernel
theorem z23_5 : jcd 23 5 = some (.aload 0, 6) := by decide +kernel
theorem z23_6 : jcd 23 6 = some (.getfield 21, 9) := by decide +kernel
theorem z23_9 : jcd 23 9 = some (.iconst 0, 10) := by decide +kernel
theorem z23_10 : jcd 23 10 = some (.iload 1, 11) := by decide +kernel
theorem z23_11 : jcd 23 11 = some (.iastore, 12) := by decide +kernel
theorem z23_12 : jcd 23 12 = some (.iconst 0, 13) := by decide +kernel
theorem z23_13 : jcd 23 13 = some (.istore 5, 15) := by decide +kernel
theorem z23_15 : jcd 23 15 = some (.iload 5, 17) := by decide +kernel
theorem z23_17 : jcd 23 17 = some (.iload 4, 19) := by decide +kernel
theorem z23_19 : jcd 23 19 = some (.if_icmp .ge 141, 22) := by decide +kernel
theorem z23_22 : jcd 23 22 = some (.iload 5, 24) := by decide +kernel
theorem z23_24 : jcd 23 24 = some (.bipush 12, 26) := by decide +kernel
theorem z23_26 : jcd 23 26 = some (.if_icmp .ge 141, 29) := by decide +kernel
theorem z23_29 : jcd 23 29 = some (.aload 0, 30) := by decide +kernel
theorem z23_30 : jcd 23 30 = some (.getfield 21, 33) := by decide +kernel
theorem z23_33 : jcd 23 33 = some (.iload 5, 35) := by decide +kernel
theorem z23_35 : jcd 23 35 = some (.iaload, 36) := by decide +kernel
theorem z23_36 : jcd 23 36 = some (.istore 6, 38) := by decide +kernel
theorem z23_38 : jcd 23 38 = some (.iconst 0, 39) := by decide +kernel
theorem z23_39 : jcd 23 39 = some (.istore 7, 41) := by decide +kernel
theorem z23_41 : jcd 23 41 = some (.iload 7, 43) := by decide +kernel
theorem z23_43 : jcd 23 43 = some (.bipush 20, 45) := by decide +kernel
theorem z23_45 : jcd 23 45 = some (.if_icmp .ge 135, 48) := by decide +kernel
theorem z23_48 : jcd 23 48 = some (.aload 0, 49) := by decide +kernel
theorem z23_49 : jcd 23 49 = some (.getfield 9, 52) := by decide +kernel
theorem z23_52 : jcd 23 52 = some (.iload 6, 54) := by decide +kernel
theorem z23_54 : jcd 23 54 = some (.iaload, 55) := by decide +kernel
theorem z23_55 : jcd 23 55 = some (.iload 3, 56) := by decide +kernel
theorem z23_56 : jcd 23 56 = some (.iconst (-1), 57) := by decide +kernel
theorem z23_57 : jcd 23 57 = some (.ixor, 58) := by decide +kernel
theorem z23_58 : jcd 23 58 = some (.iand, 59) := by decide +kernel
theorem z23_59 : jcd 23 59 = some (.iload 7, 61) := by decide +kernel
theorem z23_61 : jcd 23 61 = some (.invokestatic 45, 64) := by decide +kernel
theorem z23_64 : jcd 23 64 = some (.ifCond .ne 70, 67) := by decide +kernel
theorem z23_67 : jcd 23 67 = some (.goto 129, 70) := by decide +kernel
theorem z23_70 : jcd 23 70 = some (.iload 3, 71) := by decide +kernel
theorem z23_71 : jcd 23 71 = some (.iconst 1, 72) := by decide +kernel
theorem z23_72 : jcd 23 72 = some (.iload 7, 74) := by decide +kernel
theorem z23_74 : jcd 23 74 = some (.ishl, 75) := by decide +kernel
theorem z23_75 : jcd 23 75 = some (.ior, 76) := by decide +kernel
theorem z23_76 : jcd 23 76 = some (.istore 3, 77) := by decide +kernel
theorem z23_77 : jcd 23 77 = some (.aload 0, 78) := by decide +kernel
theorem z23_78 : jcd 23 78 = some (.getfield 24, 81) := by decide +kernel
theorem z23_81 : jcd 23 81 = some (.iload 7, 83) := by decide +kernel
theorem z23_83 : jcd 23 83 = some (.iload 6, 85) := by decide +kernel
theorem z23_85 : jcd 23 85 = some (.iastore, 86) := by decide +kernel
theorem z23_86 : jcd 23 86 = some (.aload 0, 87) := by decide +kernel
theorem z23_87 : jcd 23 87 = some (.getfield 18, 90) := by decide +kernel
theorem z23_90 : jcd 23 90 = some (.iload 7, 92) := by decide +kernel
theorem z23_92 : jcd 23 92 = some (.iaload, 93) := by decide +kernel
theorem z23_93 : jcd 23 93 = some (.iconst (-1), 94) := by decide +kernel
theorem z23_94 : jcd 23 94 = some (.if_icmp .ne 105, 97) := by decide +kernel
theorem z23_97 : jcd 23 97 = some (.aload 0, 98) := by decide +kernel
theorem z23_98 : jcd 23 98 = some (.iload 7, 100) := by decide +kernel
theorem z23_100 : jcd 23 100 = some (.invokevirtual 62, 103) := by decide +kernel
theorem z23_103 : jcd 23 103 = some (.iconst 1, 104) := by decide +kernel
theorem z23_104 : jcd 23 104 = some (.ireturn, 105) := by decide +kernel
theorem z23_105 : jcd 23 105 = some (.iload 4, 107) := by decide +kernel
theorem z23_107 : jcd 23 107 = some (.bipush 12, 109) := by decide +kernel
theorem z23_109 : jcd 23 109 = some (.if_icmp .ge 129, 112) := by decide +kernel
theorem z23_112 : jcd 23 112 = some (.aload 0, 113) := by decide +kernel
theorem z23_113 : jcd 23 113 = some (.getfield 21, 116) := by decide +kernel
theorem z23_116 : jcd 23 116 = some (.iload 4, 118) := by decide +kernel
theorem z23_118 : jcd 23 118 = some (.aload 0, 119) := by decide +kernel
theorem z23_119 : jcd 23 119 = some (.getfield 18, 122) := by decide +kernel
theorem z23_122 : jcd 23 122 = some (.iload 7, 124) := by decide +kernel
theorem z23_124 : jcd 23 124 = some (.iaload, 125) := by decide +kernel
theorem z23_125 : jcd 23 125 = some (.iastore, 126) := by decide +kernel
theorem z23_126 : jcd 23 126 = some (.iinc 4 1, 129) := by decide +kernel
theorem z23_129 : jcd 23 129 = some (.iinc 7 1, 132) := by decide +kernel
theorem z23_132 : jcd 23 132 = some (.goto 41, 135) := by decide +kernel
theorem z23_135 : jcd 23 135 = some (.iinc 5 1, 138) := by decide +kernel
theorem z23_138 : jcd 23 138 = some (.goto 15, 141) := by decide +kernel
theorem z23_141 : jcd 23 141 = some (.iconst 0, 142) := by decide +kernel
theorem z23_142 : jcd 23 142 = some (.ireturn, 143) := by decide +kernel
theorem z24_0 : jcd 24 0 = some (.iload 1, 1) := by decide +kernel
theorem z24_1 : jcd 24 1 = some (.istore 2, 2) := by decide +kernel
theorem z24_2 : jcd 24 2 = some (.iconst 0, 3) := by decide +kernel
theorem z24_3 : jcd 24 3 = some (.istore 3, 4) := by decide +kernel
theorem z24_4 : jcd 24 4 = some (.iload 3, 5) := by decide +kernel
theorem z24_5 : jcd 24 5 = some (.bipush 12, 7) := by decide +kernel
theorem z24_7 : jcd 24 7 = some (.if_icmp .ge 48, 10) := by decide +kernel
theorem z24_10 : jcd 24 10 = some (.iload 2, 11) := by decide +kernel
theorem z24_11 : jcd 24 11 = some (.iconst (-1), 12) := by decide +kernel
theorem z24_12 : jcd 24 12 = some (.if_icmp .eq 48, 15) := by decide +kernel
theorem z24_15 : jcd 24 15 = some (.aload 0, 16) := by decide +kernel
theorem z24_16 : jcd 24 16 = some (.getfield 24, 19) := by decide +kernel
theorem z24_19 : jcd 24 19 = some (.iload 2, 20) := by decide +kernel
theorem z24_20 : jcd 24 20 = some (.iaload, 21) := by decide +kernel
theorem z24_21 : jcd 24 21 = some (.istore 4, 23) := by decide +kernel
theorem z24_23 : jcd 24 23 = some (.aload 0, 24) := by decide +kernel
theorem z24_24 : jcd 24 24 = some (.getfield 15, 27) := by decide +kernel
theorem z24_27 : jcd 24 27 = some (.iload 4, 29) := by decide +kernel
theorem z24_29 : jcd 24 29 = some (.iaload, 30) := by decide +kernel
theorem z24_30 : jcd 24 30 = some (.istore 5, 32) := by decide +kernel
theorem z24_32 : jcd 24 32 = some (.aload 0, 33) := by decide +kernel
theorem z24_33 : jcd 24 33 = some (.iload 4, 35) := by decide +kernel
theorem z24_35 : jcd 24 35 = some (.iload 2, 36) := by decide +kernel
theorem z24_36 : jcd 24 36 = some (.invokevirtual 56, 39) := by decide +kernel
theorem z24_39 : jcd 24 39 = some (.iload 5, 41) := by decide +kernel
theorem z24_41 : jcd 24 41 = some (.istore 2, 42) := by decide +kernel
theorem z24_42 : jcd 24 42 = some (.iinc 3 1, 45) := by decide +kernel
theorem z24_45 : jcd 24 45 = some (.goto 4, 48) := by decide +kernel
theorem z24_48 : jcd 24 48 = some (.return_, 49) := by decide +kernel
theorem z25_0 : jcd 25 0 = some (.aload 0, 1) := by decide +kernel
theorem z25_1 : jcd 25 1 = some (.invokespecial 3, 4) := by decide +kernel
theorem z25_4 : jcd 25 4 = some (.aload 0, 5) := by decide +kernel
theorem z25_5 : jcd 25 5 = some (.new 9, 8) := by decide +kernel
theorem z25_8 : jcd 25 8 = some (.dup, 9) := by decide +kernel
theorem z25_9 : jcd 25 9 = some (.invokespecial 11, 12) := by decide +kernel
theorem z25_12 : jcd 25 12 = some (.putfield 12, 15) := by decide +kernel
theorem z25_15 : jcd 25 15 = some (.aload 0, 16) := by decide +kernel
theorem z25_16 : jcd 25 16 = some (.new 16, 19) := by decide +kernel
theorem z25_19 : jcd 25 19 = some (.dup, 20) := by decide +kernel
theorem z25_20 : jcd 25 20 = some (.invokespecial 18, 23) := by decide +kernel
theorem z25_23 : jcd 25 23 = some (.putfield 19, 26) := by decide +kernel
theorem z25_26 : jcd 25 26 = some (.aload 0, 27) := by decide +kernel
theorem z25_27 : jcd 25 27 = some (.new 23, 30) := by decide +kernel
theorem z25_30 : jcd 25 30 = some (.dup, 31) := by decide +kernel
theorem z25_31 : jcd 25 31 = some (.invokespecial 25, 34) := by decide +kernel
theorem z25_34 : jcd 25 34 = some (.putfield 26, 37) := by decide +kernel
theorem z25_37 : jcd 25 37 = some (.aload 0, 38) := by decide +kernel
theorem z25_38 : jcd 25 38 = some (.iconst 0, 39) := by decide +kernel
theorem z25_39 : jcd 25 39 = some (.putfield 30, 42) := by decide +kernel
theorem z25_42 : jcd 25 42 = some (.aload 0, 43) := by decide +kernel
theorem z25_43 : jcd 25 43 = some (.bipush 30, 45) := by decide +kernel
theorem z25_45 : jcd 25 45 = some (.putfield 34, 48) := by decide +kernel
theorem z25_48 : jcd 25 48 = some (.return_, 49) := by decide +kernel
theorem z26_0 : jcd 26 0 = some (.iload 1, 1) := by decide +kernel
theorem z26_1 : jcd 26 1 = some (.iconst 1, 2) := by decide +kernel
theorem z26_2 : jcd 26 2 = some (.sipush 2000, 5) := by decide +kernel
theorem z26_5 : jcd 26 5 = some (.invokestatic 37, 8) := by decide +kernel
theorem z26_8 : jcd 26 8 = some (.iload 2, 9) := by decide +kernel
theorem z26_9 : jcd 26 9 = some (.iconst 0, 10) := by decide +kernel
theorem z26_10 : jcd 26 10 = some (.bipush 100, 12) := by decide +kernel
theorem z26_12 : jcd 26 12 = some (.invokestatic 37, 15) := by decide +kernel
theorem z26_15 : jcd 26 15 = some (.iload 3, 16) := by decide +kernel
theorem z26_16 : jcd 26 16 = some (.iconst 0, 17) := by decide +kernel
theorem z26_17 : jcd 26 17 = some (.bipush 50, 19) := by decide +kernel
theorem z26_19 : jcd 26 19 = some (.invokestatic 37, 22) := by decide +kernel
theorem z26_22 : jcd 26 22 = some (.aload 0, 23) := by decide +kernel
theorem z26_23 : jcd 26 23 = some (.getfield 12, 26) := by decide +kernel
theorem z26_26 : jcd 26 26 = some (.invokevirtual 41, 29) := by decide +kernel
theorem z26_29 : jcd 26 29 = some (.ifCond .eq 42, 32) := by decide +kernel
theorem z26_32 : jcd 26 32 = some (.new 45, 35) := by decide +kernel
theorem z26_35 : jcd 26 35 = some (.dup, 36) := by decide +kernel
theorem z26_36 : jcd 26 36 = some (.ldc 47, 38) := by decide +kernel
theorem z26_38 : jcd 26 38 = some (.invokespecial 49, 41) := by decide +kernel
theorem z26_41 : jcd 26 41 = some (.athrow, 42) := by decide +kernel
theorem z26_42 : jcd 26 42 = some (.aload 0, 43) := by decide +kernel
theorem z26_43 : jcd 26 43 = some (.getfield 12, 46) := by decide +kernel
theorem z26_46 : jcd 26 46 = some (.iload 1, 47) := by decide +kernel
theorem z26_47 : jcd 26 47 = some (.iload 2, 48) := by decide +kernel
theorem z26_48 : jcd 26 48 = some (.iload 3, 49) := by decide +kernel
theorem z26_49 : jcd 26 49 = some (.invokevirtual 52, 52) := by decide +kernel
theorem z26_52 : jcd 26 52 = some (.ireturn, 53) := by decide +kernel
theorem z27_0 : jcd 27 0 = some (.aload 0, 1) := by decide +kernel
theorem z27_1 : jcd 27 1 = some (.iload 1, 2) := by decide +kernel
theorem z27_2 : jcd 27 2 = some (.invokevirtual 56, 5) := by decide +kernel
theorem z27_5 : jcd 27 5 = some (.aload 0, 6) := by decide +kernel
theorem z27_6 : jcd 27 6 = some (.iload 2, 7) := by decide +kernel
theorem z27_7 : jcd 27 7 = some (.invokevirtual 56, 10) := by decide +kernel
theorem z27_10 : jcd 27 10 = some (.aload 0, 11) := by decide +kernel
theorem z27_11 : jcd 27 11 = some (.getfield 12, 14) := by decide +kernel
theorem z27_14 : jcd 27 14 = some (.iload 1, 15) := by decide +kernel
theorem z27_15 : jcd 27 15 = some (.iload 2, 16) := by decide +kernel
theorem z27_16 : jcd 27 16 = some (.invokevirtual 60, 19) := by decide +kernel
theorem z27_19 : jcd 27 19 = some (.ifCond .eq 32, 22) := by decide +kernel
theorem z27_22 : jcd 27 22 = some (.new 64, 25) := by decide +kernel
theorem z27_25 : jcd 27 25 = some (.dup, 26) := by decide +kernel
theorem z27_26 : jcd 27 26 = some (.ldc 66, 28) := by decide +kernel
theorem z27_28 : jcd 27 28 = some (.invokespecial 68, 31) := by decide +kernel
theorem z27_31 : jcd 27 31 = some (.athrow, 32) := by decide +kernel
theorem z27_32 : jcd 27 32 = some (.aload 0, 33) := by decide +kernel
theorem z27_33 : jcd 27 33 = some (.getfield 12, 36) := by decide +kernel
theorem z27_36 : jcd 27 36 = some (.getfield 69, 39) := by decide +kernel
theorem z27_39 : jcd 27 39 = some (.iload 1, 40) := by decide +kernel
theorem z27_40 : jcd 27 40 = some (.iaload, 41) := by decide +kernel
theorem z27_41 : jcd 27 41 = some (.iload 2, 42) := by decide +kernel
theorem z27_42 : jcd 27 42 = some (.invokestatic 73, 45) := by decide +kernel
theorem z27_45 : jcd 27 45 = some (.ifCond .eq 58, 48) := by decide +kernel
theorem z27_48 : jcd 27 48 = some (.new 64, 51) := by decide +kernel
theorem z27_51 : jcd 27 51 = some (.dup, 52) := by decide +kernel
theorem z27_52 : jcd 27 52 = some (.ldc 76, 54) := by decide +kernel
theorem z27_54 : jcd 27 54 = some (.invokespecial 68, 57) := by decide +kernel
theorem z27_57 : jcd 27 57 = some (.athrow, 58) := by decide +kernel
theorem z27_58 : jcd 27 58 = some (.aload 0, 59) := by decide +kernel
theorem z27_59 : jcd 27 59 = some (.getfield 12, 62) := by decide +kernel
theorem z27_62 : jcd 27 62 = some (.iload 1, 63) := by decide +kernel
theorem z27_63 : jcd 27 63 = some (.iload 2, 64) := by decide +kernel
theorem z27_64 : jcd 27 64 = some (.invokevirtual 78, 67) := by decide +kernel
theorem z27_67 : jcd 27 67 = some (.return_, 68) := by decide +kernel
theorem z28_0 : jcd 28 0 = some (.iload 1, 1) := by decide +kernel
theorem z28_1 : jcd 28 1 = some (.iconst 0, 2) := by decide +kernel
theorem z28_2 : jcd 28 2 = some (.sipush 1000, 5) := by decide +kernel
theorem z28_5 : jcd 28 5 = some (.invokestatic 37, 8) := by decide +kernel
theorem z28_8 : jcd 28 8 = some (.aload 0, 9) := by decide +kernel
theorem z28_9 : jcd 28 9 = some (.iload 1, 10) := by decide +kernel
theorem z28_10 : jcd 28 10 = some (.putfield 34, 13) := by decide +kernel
theorem z28_13 : jcd 28 13 = some (.return_, 14) := by decide +kernel
theorem z29_0 : jcd 29 0 = some (.iload 1, 1) := by decide +kernel
theorem z29_1 : jcd 29 1 = some (.aload 0, 2) := by decide +kernel
theorem z29_2 : jcd 29 2 = some (.getfield 30, 5) := by decide +kernel
theorem z29_5 : jcd 29 5 = some (.sipush 9999, 8) := by decide +kernel
theorem z29_8 : jcd 29 8 = some (.invokestatic 37, 11) := by decide +kernel
theorem z29_11 : jcd 29 11 = some (.iload 1, 12) := by decide +kernel
theorem z29_12 : jcd 29 12 = some (.aload 0, 13) := by decide +kernel
theorem z29_13 : jcd 29 13 = some (.getfield 30, 16) := by decide +kernel
theorem z29_16 : jcd 29 16 = some (.if_icmp .eq 26, 19) := by decide +kernel
theorem z29_19 : jcd 29 19 = some (.aload 0, 20) := by decide +kernel
theorem z29_20 : jcd 29 20 = some (.getfield 12, 23) := by decide +kernel
theorem z29_23 : jcd 29 23 = some (.invokevirtual 82, 26) := by decide +kernel
theorem z29_26 : jcd 29 26 = some (.aload 0, 27) := by decide +kernel
theorem z29_27 : jcd 29 27 = some (.iload 1, 28) := by decide +kernel
theorem z29_28 : jcd 29 28 = some (.putfield 30, 31) := by decide +kernel
theorem z29_31 : jcd 29 31 = some (.return_, 32) := by decide +kernel
theorem z30_0 : jcd 30 0 = some (.aload 0, 1) := by decide +kernel
theorem z30_1 : jcd 30 1 = some (.iload 1, 2) := by decide +kernel
theorem z30_2 : jcd 30 2 = some (.invokevirtual 56, 5) := by decide +kernel
theorem z30_5 : jcd 30 5 = some (.iload 2, 6) := by decide +kernel
theorem z30_6 : jcd 30 6 = some (.iconst 0, 7) := by decide +kernel
theorem z30_7 : jcd 30 7 = some (.bipush 10, 9) := by decide +kernel
theorem z30_9 : jcd 30 9 = some (.invokestatic 37, 12) := by decide +kernel
theorem z30_12 : jcd 30 12 = some (.aload 0, 13) := by decide +kernel
theorem z30_13 : jcd 30 13 = some (.getfield 12, 16) := by decide +kernel
theorem z30_16 : jcd 30 16 = some (.getfield 85, 19) := by decide +kernel
theorem z30_19 : jcd 30 19 = some (.iload 1, 20) := by decide +kernel
theorem z30_20 : jcd 30 20 = some (.iload 2, 21) := by decide +kernel
theorem z30_21 : jcd 30 21 = some (.iastore, 22) := by decide +kernel
theorem z30_22 : jcd 30 22 = some (.return_, 23) := by decide +kernel
theorem z31_0 : jcd 31 0 = some (.aload 0, 1) := by decide +kernel
theorem z31_1 : jcd 31 1 = some (.iload 1, 2) := by decide +kernel
theorem z31_2 : jcd 31 2 = some (.iload 2, 3) := by decide +kernel
theorem z31_3 : jcd 31 3 = some (.invokevirtual 88, 6) := by decide +kernel
theorem z31_6 : jcd 31 6 = some (.iload 3, 7) := by decide +kernel
theorem z31_7 : jcd 31 7 = some (.iconst 0, 8) := by decide +kernel
theorem z31_8 : jcd 31 8 = some (.bipush 100, 10) := by decide +kernel
theorem z31_10 : jcd 31 10 = some (.invokestatic 37, 13) := by decide +kernel
theorem z31_13 : jcd 31 13 = some (.aload 0, 14) := by decide +kernel
theorem z31_14 : jcd 31 14 = some (.iload 1, 15) := by decide +kernel
theorem z31_15 : jcd 31 15 = some (.iload 2, 16) := by decide +kernel
theorem z31_16 : jcd 31 16 = some (.invokevirtual 91, 19) := by decide +kernel
theorem z31_19 : jcd 31 19 = some (.ifCond .eq 32, 22) := by decide +kernel
theorem z31_22 : jcd 31 22 = some (.new 64, 25) := by decide +kernel
theorem z31_25 : jcd 31 25 = some (.dup, 26) := by decide +kernel
theorem z31_26 : jcd 31 26 = some (.ldc 95, 28) := by decide +kernel
theorem z31_28 : jcd 31 28 = some (.invokespecial 68, 31) := by decide +kernel
theorem z31_31 : jcd 31 31 = some (.athrow, 32) := by decide +kernel
theorem z31_32 : jcd 31 32 = some (.aload 0, 33) := by decide +kernel
theorem z31_33 : jcd 31 33 = some (.iload 2, 34) := by decide +kernel
theorem z31_34 : jcd 31 34 = some (.invokevirtual 97, 37) := by decide +kernel
theorem z31_37 : jcd 31 37 = some (.ifCond .ne 50, 40) := by decide +kernel
theorem z31_40 : jcd 31 40 = some (.new 45, 43) := by decide +kernel
theorem z31_43 : jcd 31 43 = some (.dup, 44) := by decide +kernel
theorem z31_44 : jcd 31 44 = some (.ldc 101, 46) := by decide +kernel
theorem z31_46 : jcd 31 46 = some (.invokespecial 49, 49) := by decide +kernel
theorem z31_49 : jcd 31 49 = some (.athrow, 50) := by decide +kernel
theorem z31_50 : jcd 31 50 = some (.aload 0, 51) := by decide +kernel
theorem z31_51 : jcd 31 51 = some (.invokevirtual 103, 54) := by decide +kernel
theorem z31_54 : jcd 31 54 = some (.aload 0, 55) := by decide +kernel
theorem z31_55 : jcd 31 55 = some (.iload 1, 56) := by decide +kernel
theorem z31_56 : jcd 31 56 = some (.iload 2, 57) := by decide +kernel
theorem z31_57 : jcd 31 57 = some (.iload 3, 58) := by decide +kernel
theorem z31_58 : jcd 31 58 = some (.aload 0, 59) := by decide +kernel
theorem z31_59 : jcd 31 59 = some (.getfield 12, 62) := by decide +kernel
theorem z31_62 : jcd 31 62 = some (.getfield 106, 65) := by decide +kernel
theorem z31_65 : jcd 31 65 = some (.iload 2, 66) := by decide +kernel
theorem z31_66 : jcd 31 66 = some (.iaload, 67) := by decide +kernel
theorem z31_67 : jcd 31 67 = some (.if_icmp .lt 74, 70) := by decide +kernel
theorem z31_70 : jcd 31 70 = some (.iconst 1, 71) := by decide +kernel
theorem z31_71 : jcd 31 71 = some (.goto 75, 74) := by decide +kernel
theorem z31_74 : jcd 31 74 = some (.iconst 0, 75) := by decide +kernel
theorem z31_75 : jcd 31 75 = some (.invokevirtual 109, 78) := by decide +kernel
theorem z31_78 : jcd 31 78 = some (.ireturn, 79) := by decide +kernel
theorem z32_0 : jcd 32 0 = some (.aload 0, 1) := by decide +kernel
theorem z32_1 : jcd 32 1 = some (.iload 1, 2) := by decide +kernel
theorem z32_2 : jcd 32 2 = some (.iload 2, 3) := by decide +kernel
theorem z32_3 : jcd 32 3 = some (.invokevirtual 88, 6) := by decide +kernel
theorem z32_6 : jcd 32 6 = some (.aload 0, 7) := by decide +kernel
theorem z32_7 : jcd 32 7 = some (.getfield 12, 10) := by decide +kernel
theorem z32_10 : jcd 32 10 = some (.getfield 113, 13) := by decide +kernel
theorem z32_13 : jcd 32 13 = some (.iload 2, 14) := by decide +kernel
theorem z32_14 : jcd 32 14 = some (.baload, 15) := by decide +kernel
theorem z32_15 : jcd 32 15 = some (.ifCond .eq 28, 18) := by decide +kernel
theorem z32_18 : jcd 32 18 = some (.new 64, 21) := by decide +kernel
theorem z32_21 : jcd 32 21 = some (.dup, 22) := by decide +kernel
theorem z32_22 : jcd 32 22 = some (.ldc 117, 24) := by decide +kernel
theorem z32_24 : jcd 32 24 = some (.invokespecial 68, 27) := by decide +kernel
theorem z32_27 : jcd 32 27 = some (.athrow, 28) := by decide +kernel
theorem z32_28 : jcd 32 28 = some (.aload 0, 29) := by decide +kernel
theorem z32_29 : jcd 32 29 = some (.invokevirtual 103, 32) := by decide +kernel
theorem z32_32 : jcd 32 32 = some (.aload 0, 33) := by decide +kernel
theorem z32_33 : jcd 32 33 = some (.iload 1, 34) := by decide +kernel
theorem z32_34 : jcd 32 34 = some (.iload 2, 35) := by decide +kernel
theorem z32_35 : jcd 32 35 = some (.iconst 1, 36) := by decide +kernel
theorem z32_36 : jcd 32 36 = some (.invokevirtual 109, 39) := by decide +kernel
theorem z32_39 : jcd 32 39 = some (.ireturn, 40) := by decide +kernel
theorem z33_0 : jcd 33 0 = some (.aload 0, 1) := by decide +kernel
theorem z33_1 : jcd 33 1 = some (.iload 1, 2) := by decide +kernel
theorem z33_2 : jcd 33 2 = some (.iload 2, 3) := by decide +kernel
theorem z33_3 : jcd 33 3 = some (.invokevirtual 88, 6) := by decide +kernel
theorem z33_6 : jcd 33 6 = some (.aload 0, 7) := by decide +kernel
theorem z33_7 : jcd 33 7 = some (.getfield 12, 10) := by decide +kernel
theorem z33_10 : jcd 33 10 = some (.getfield 119, 13) := by decide +kernel
theorem z33_13 : jcd 33 13 = some (.iload 2, 14) := by decide +kernel
theorem z33_14 : jcd 33 14 = some (.iaload, 15) := by decide +kernel
theorem z33_15 : jcd 33 15 = some (.iload 1, 16) := by decide +kernel
theorem z33_16 : jcd 33 16 = some (.invokestatic 73, 19) := by decide +kernel
theorem z33_19 : jcd 33 19 = some (.iload 3, 20) := by decide +kernel
theorem z33_20 : jcd 33 20 = some (.if_icmp .ne 33, 23) := by decide +kernel
theorem z33_23 : jcd 33 23 = some (.new 64, 26) := by decide +kernel
theorem z33_26 : jcd 33 26 = some (.dup, 27) := by decide +kernel
theorem z33_27 : jcd 33 27 = some (.ldc 122, 29) := by decide +kernel
theorem z33_29 : jcd 33 29 = some (.invokespecial 68, 32) := by decide +kernel
theorem z33_32 : jcd 33 32 = some (.athrow, 33) := by decide +kernel
theorem z33_33 : jcd 33 33 = some (.iload 3, 34) := by decide +kernel
theorem z33_34 : jcd 33 34 = some (.ifCond .eq 56, 37) := by decide +kernel
theorem z33_37 : jcd 33 37 = some (.aload 0, 38) := by decide +kernel
theorem z33_38 : jcd 33 38 = some (.iload 1, 39) := by decide +kernel
theorem z33_39 : jcd 33 39 = some (.iload 2, 40) := by decide +kernel
theorem z33_40 : jcd 33 40 = some (.invokevirtual 124, 43) := by decide +kernel
theorem z33_43 : jcd 33 43 = some (.ifCond .ne 56, 46) := by decide +kernel
theorem z33_46 : jcd 33 46 = some (.new 64, 49) := by decide +kernel
theorem z33_49 : jcd 33 49 = some (.dup, 50) := by decide +kernel
theorem z33_50 : jcd 33 50 = some (.ldc 127, 52) := by decide +kernel
theorem z33_52 : jcd 33 52 = some (.invokespecial 68, 55) := by decide +kernel
theorem z33_55 : jcd 33 55 = some (.athrow, 56) := by decide +kernel
theorem z33_56 : jcd 33 56 = some (.aload 0, 57) := by decide +kernel
theorem z33_57 : jcd 33 57 = some (.getfield 12, 60) := by decide +kernel
theorem z33_60 : jcd 33 60 = some (.getfield 119, 63) := by decide +kernel
theorem z33_63 : jcd 33 63 = some (.iload 2, 64) := by decide +kernel
theorem z33_64 : jcd 33 64 = some (.dup2, 65) := by decide +kernel
theorem z33_65 : jcd 33 65 = some (.iaload, 66) := by decide +kernel
theorem z33_66 : jcd 33 66 = some (.iconst 1, 67) := by decide +kernel
theorem z33_67 : jcd 33 67 = some (.iload 1, 68) := by decide +kernel
theorem z33_68 : jcd 33 68 = some (.ishl, 69) := by decide +kernel
theorem z33_69 : jcd 33 69 = some (.ixor, 70) := by decide +kernel
theorem z33_70 : jcd 33 70 = some (.iastore, 71) := by decide +kernel
theorem z33_71 : jcd 33 71 = some (.return_, 72) := by decide +kernel
theorem z34_0 : jcd 34 0 = some (.aload 0, 1) := by decide +kernel
theorem z34_1 : jcd 34 1 = some (.iload 1, 2) := by decide +kernel
theorem z34_2 : jcd 34 2 = some (.iload 2, 3) := by decide +kernel
theorem z34_3 : jcd 34 3 = some (.invokevirtual 88, 6) := by decide +kernel
theorem z34_6 : jcd 34 6 = some (.aload 0, 7) := by decide +kernel
theorem z34_7 : jcd 34 7 = some (.iload 1, 8) := by decide +kernel
theorem z34_8 : jcd 34 8 = some (.iload 2, 9) := by decide +kernel
theorem z34_9 : jcd 34 9 = some (.invokevirtual 124, 12) := by decide +kernel
theorem z34_12 : jcd 34 12 = some (.ifCond .ne 25, 15) := by decide +kernel
theorem z34_15 : jcd 34 15 = some (.new 64, 18) := by decide +kernel
theorem z34_18 : jcd 34 18 = some (.dup, 19) := by decide +kernel
theorem z34_19 : jcd 34 19 = some (.ldc 127, 21) := by decide +kernel
theorem z34_21 : jcd 34 21 = some (.invokespecial 68, 24) := by decide +kernel
theorem z34_24 : jcd 34 24 = some (.athrow, 25) := by decide +kernel
theorem z34_25 : jcd 34 25 = some (.aload 0, 26) := by decide +kernel
theorem z34_26 : jcd 34 26 = some (.getfield 19, 29) := by decide +kernel
theorem z34_29 : jcd 34 29 = some (.iload 1, 30) := by decide +kernel
theorem z34_30 : jcd 34 30 = some (.iload 2, 31) := by decide +kernel
theorem z34_31 : jcd 34 31 = some (.invokestatic 129, 34) := by decide +kernel
theorem z34_34 : jcd 34 34 = some (.aload 0, 35) := by decide +kernel
theorem z34_35 : jcd 34 35 = some (.getfield 30, 38) := by decide +kernel
theorem z34_38 : jcd 34 38 = some (.aload 0, 39) := by decide +kernel
theorem z34_39 : jcd 34 39 = some (.getfield 12, 42) := by decide +kernel
theorem z34_42 : jcd 34 42 = some (.getfield 132, 45) := by decide +kernel
theorem z34_45 : jcd 34 45 = some (.iload 2, 46) := by decide +kernel
theorem z34_46 : jcd 34 46 = some (.iaload, 47) := by decide +kernel
theorem z34_47 : jcd 34 47 = some (.invokevirtual 135, 50) := by decide +kernel
theorem z34_50 : jcd 34 50 = some (.ireturn, 51) := by decide +kernel
theorem z35_0 : jcd 35 0 = some (.aload 0, 1) := by decide +kernel
theorem z35_1 : jcd 35 1 = some (.iload 1, 2) := by decide +kernel
theorem z35_2 : jcd 35 2 = some (.iload 2, 3) := by decide +kernel
theorem z35_3 : jcd 35 3 = some (.invokevirtual 88, 6) := by decide +kernel
theorem z35_6 : jcd 35 6 = some (.iload 3, 7) := by decide +kernel
theorem z35_7 : jcd 35 7 = some (.iconst 0, 8) := by decide +kernel
theorem z35_8 : jcd 35 8 = some (.sipush 9999, 11) := by decide +kernel
theorem z35_11 : jcd 35 11 = some (.invokestatic 37, 14) := by decide +kernel
theorem z35_14 : jcd 35 14 = some (.iload 3, 15) := by decide +kernel
theorem z35_15 : jcd 35 15 = some (.aload 0, 16) := by decide +kernel
theorem z35_16 : jcd 35 16 = some (.aload 0, 17) := by decide +kernel
theorem z35_17 : jcd 35 17 = some (.getfield 19, 20) := by decide +kernel
theorem z35_20 : jcd 35 20 = some (.iload 1, 21) := by decide +kernel
theorem z35_21 : jcd 35 21 = some (.iload 2, 22) := by decide +kernel
theorem z35_22 : jcd 35 22 = some (.invokestatic 129, 25) := by decide +kernel
theorem z35_25 : jcd 35 25 = some (.iload 3, 26) := by decide +kernel
theorem z35_26 : jcd 35 26 = some (.invokevirtual 138, 29) := by decide +kernel
theorem z35_29 : jcd 35 29 = some (.iload 2, 30) := by decide +kernel
theorem z35_30 : jcd 35 30 = some (.invokevirtual 141, 33) := by decide +kernel
theorem z35_33 : jcd 35 33 = some (.if_icmp .ge 40, 36) := by decide +kernel
theorem z35_36 : jcd 35 36 = some (.iconst 1, 37) := by decide +kernel
theorem z35_37 : jcd 35 37 = some (.goto 41, 40) := by decide +kernel
theorem z35_40 : jcd 35 40 = some (.iconst 0, 41) := by decide +kernel
theorem z35_41 : jcd 35 41 = some (.ireturn, 42) := by decide +kernel
theorem z36_0 : jcd 36 0 = some (.aload 0, 1) := by decide +kernel
theorem z36_1 : jcd 36 1 = some (.iload 1, 2) := by decide +kernel
theorem z36_2 : jcd 36 2 = some (.iload 2, 3) := by decide +kernel
theorem z36_3 : jcd 36 3 = some (.invokevirtual 88, 6) := by decide +kernel
theorem z36_6 : jcd 36 6 = some (.aload 0, 7) := by decide +kernel
theorem z36_7 : jcd 36 7 = some (.iload 1, 8) := by decide +kernel
theorem z36_8 : jcd 36 8 = some (.iload 2, 9) := by decide +kernel
theorem z36_9 : jcd 36 9 = some (.invokevirtual 144, 12) := by decide +kernel
theorem z36_12 : jcd 36 12 = some (.ireturn, 13) := by decide +kernel
theorem z37_0 : jcd 37 0 = some (.aload 0, 1) := by decide +kernel
theorem z37_1 : jcd 37 1 = some (.iload 1, 2) := by decide +kernel
theorem z37_2 : jcd 37 2 = some (.iload 2, 3) := by decide +kernel
theorem z37_3 : jcd 37 3 = some (.invokevirtual 88, 6) := by decide +kernel
theorem z37_6 : jcd 37 6 = some (.aload 0, 7) := by decide +kernel
theorem z37_7 : jcd 37 7 = some (.getfield 19, 10) := by decide +kernel
theorem z37_10 : jcd 37 10 = some (.getfield 147, 13) := by decide +kernel
theorem z37_13 : jcd 37 13 = some (.iload 1, 14) := by decide +kernel
theorem z37_14 : jcd 37 14 = some (.iload 2, 15) := by decide +kernel
theorem z37_15 : jcd 37 15 = some (.invokestatic 129, 18) := by decide +kernel
theorem z37_18 : jcd 37 18 = some (.iaload, 19) := by decide +kernel
theorem z37_19 : jcd 37 19 = some (.ireturn, 20) := by decide +kernel
theorem z38_0 : jcd 38 0 = some (.aload 0, 1) := by decide +kernel
theorem z38_1 : jcd 38 1 = some (.iload 1, 2) := by decide +kernel
theorem z38_2 : jcd 38 2 = some (.iload 2, 3) := by decide +kernel
theorem z38_3 : jcd 38 3 = some (.invokevirtual 88, 6) := by decide +kernel
theorem z38_6 : jcd 38 6 = some (.aload 0, 7) := by decide +kernel
theorem z38_7 : jcd 38 7 = some (.iload 1, 8) := by decide +kernel
theorem z38_8 : jcd 38 8 = some (.iload 2, 9) := by decide +kernel
theorem z38_9 : jcd 38 9 = some (.invokevirtual 91, 12) := by decide +kernel
theorem z38_12 : jcd 38 12 = some (.ireturn, 13) := by decide +kernel
theorem z39_0 : jcd 39 0 = some (.aload 0, 1) := by decide +kernel
theorem z39_1 : jcd 39 1 = some (.iload 1, 2) := by decide +kernel
theorem z39_2 : jcd 39 2 = some (.invokevirtual 56, 5) := by decide +kernel
theorem z39_5 : jcd 39 5 = some (.aload 0, 6) := by decide +kernel
theorem z39_6 : jcd 39 6 = some (.iload 1, 7) := by decide +kernel
theorem z39_7 : jcd 39 7 = some (.invokevirtual 97, 10) := by decide +kernel
theorem z39_10 : jcd 39 10 = some (.ireturn, 11) := by decide +kernel
theorem z40_0 : jcd 40 0 = some (.iload 3, 1) := by decide +kernel
theorem z40_1 : jcd 40 1 = some (.bipush 12, 3) := by decide +kernel
theorem z40_3 : jcd 40 3 = some (.invokestatic 150, 6) := by decide +kernel
theorem z40_6 : jcd 40 6 = some (.istore 5, 8) := by decide +kernel
theorem z40_8 : jcd 40 8 = some (.iconst 0, 9) := by decide +kernel
theorem z40_9 : jcd 40 9 = some (.istore 6, 11) := by decide +kernel
theorem z40_11 : jcd 40 11 = some (.iload 6, 13) := by decide +kernel
theorem z40_13 : jcd 40 13 = some (.iload 5, 15) := by decide +kernel
theorem z40_15 : jcd 40 15 = some (.if_icmp .ge 34, 18) := by decide +kernel
theorem z40_18 : jcd 40 18 = some (.aload 0, 19) := by decide +kernel
theorem z40_19 : jcd 40 19 = some (.lload 1, 20) := by decide +kernel
theorem z40_20 : jcd 40 20 = some (.iload 6, 22) := by decide +kernel
theorem z40_22 : jcd 40 22 = some (.invokestatic 155, 25) := by decide +kernel
theorem z40_25 : jcd 40 25 = some (.invokevirtual 56, 28) := by decide +kernel
theorem z40_28 : jcd 40 28 = some (.iinc 6 1, 31) := by decide +kernel
theorem z40_31 : jcd 40 31 = some (.goto 11, 34) := by decide +kernel
theorem z40_34 : jcd 40 34 = some (.iload 3, 35) := by decide +kernel
theorem z40_35 : jcd 40 35 = some (.iconst 0, 36) := by decide +kernel
theorem z40_36 : jcd 40 36 = some (.bipush 12, 38) := by decide +kernel
theorem z40_38 : jcd 40 38 = some (.invokestatic 37, 41) := by decide +kernel
theorem z40_41 : jcd 40 41 = some (.iload 4, 43) := by decide +kernel
theorem z40_43 : jcd 40 43 = some (.iconst 0, 44) := by decide +kernel
theorem z40_44 : jcd 40 44 = some (.sipush 2100, 47) := by decide +kernel
theorem z40_47 : jcd 40 47 = some (.invokestatic 37, 50) := by decide +kernel
theorem z40_50 : jcd 40 50 = some (.aload 0, 51) := by decide +kernel
theorem z40_51 : jcd 40 51 = some (.getfield 26, 54) := by decide +kernel
theorem z40_54 : jcd 40 54 = some (.iload 3, 55) := by decide +kernel
theorem z40_55 : jcd 40 55 = some (.invokevirtual 159, 58) := by decide +kernel
theorem z40_58 : jcd 40 58 = some (.iconst 0, 59) := by decide +kernel
theorem z40_59 : jcd 40 59 = some (.istore 6, 61) := by decide +kernel
theorem z40_61 : jcd 40 61 = some (.iload 6, 63) := by decide +kernel
theorem z40_63 : jcd 40 63 = some (.iload 5, 65) := by decide +kernel
theorem z40_65 : jcd 40 65 = some (.if_icmp .ge 96, 68) := by decide +kernel
theorem z40_68 : jcd 40 68 = some (.aload 0, 69) := by decide +kernel
theorem z40_69 : jcd 40 69 = some (.getfield 26, 72) := by decide +kernel
theorem z40_72 : jcd 40 72 = some (.getfield 162, 75) := by decide +kernel
theorem z40_75 : jcd 40 75 = some (.iload 6, 77) := by decide +kernel
theorem z40_77 : jcd 40 77 = some (.aload 0, 78) := by decide +kernel
theorem z40_78 : jcd 40 78 = some (.lload 1, 79) := by decide +kernel
theorem z40_79 : jcd 40 79 = some (.iload 6, 81) := by decide +kernel
theorem z40_81 : jcd 40 81 = some (.invokestatic 155, 84) := by decide +kernel
theorem z40_84 : jcd 40 84 = some (.iload 4, 86) := by decide +kernel
theorem z40_86 : jcd 40 86 = some (.invokevirtual 165, 89) := by decide +kernel
theorem z40_89 : jcd 40 89 = some (.iastore, 90) := by decide +kernel
theorem z40_90 : jcd 40 90 = some (.iinc 6 1, 93) := by decide +kernel
theorem z40_93 : jcd 40 93 = some (.goto 61, 96) := by decide +kernel
theorem z40_96 : jcd 40 96 = some (.aload 0, 97) := by decide +kernel
theorem z40_97 : jcd 40 97 = some (.getfield 26, 100) := by decide +kernel
theorem z40_100 : jcd 40 100 = some (.invokevirtual 168, 103) := by decide +kernel
theorem z40_103 : jcd 40 103 = some (.ireturn, 104) := by decide +kernel
theorem z41_0 : jcd 41 0 = some (.iload 1, 1) := by decide +kernel
theorem z41_1 : jcd 41 1 = some (.ifCond .lt 15, 4) := by decide +kernel
theorem z41_4 : jcd 41 4 = some (.iload 1, 5) := by decide +kernel
theorem z41_5 : jcd 41 5 = some (.aload 0, 6) := by decide +kernel
theorem z41_6 : jcd 41 6 = some (.getfield 26, 9) := by decide +kernel
theorem z41_9 : jcd 41 9 = some (.getfield 172, 12) := by decide +kernel
theorem z41_12 : jcd 41 12 = some (.if_icmp .lt 25, 15) := by decide +kernel
theorem z41_15 : jcd 41 15 = some (.new 175, 18) := by decide +kernel
theorem z41_18 : jcd 41 18 = some (.dup, 19) := by decide +kernel
theorem z41_19 : jcd 41 19 = some (.ldc 177, 21) := by decide +kernel
theorem z41_21 : jcd 41 21 = some (.invokespecial 179, 24) := by decide +kernel
theorem z41_24 : jcd 41 24 = some (.athrow, 25) := by decide +kernel
theorem z41_25 : jcd 41 25 = some (.aload 0, 26) := by decide +kernel
theorem z41_26 : jcd 41 26 = some (.getfield 26, 29) := by decide +kernel
theorem z41_29 : jcd 41 29 = some (.getfield 180, 32) := by decide +kernel
theorem z41_32 : jcd 41 32 = some (.iload 1, 33) := by decide +kernel
theorem z41_33 : jcd 41 33 = some (.iaload, 34) := by decide +kernel
theorem z41_34 : jcd 41 34 = some (.ireturn, 35) := by decide +kernel
theorem z42_0 : jcd 42 0 = some (.aload 0, 1) := by decide +kernel
theorem z42_1 : jcd 42 1 = some (.iload 1, 2) := by decide +kernel
theorem z42_2 : jcd 42 2 = some (.invokevirtual 56, 5) := by decide +kernel
theorem z42_5 : jcd 42 5 = some (.iload 2, 6) := by decide +kernel
theorem z42_6 : jcd 42 6 = some (.ifCond .ge 19, 9) := by decide +kernel
theorem z42_9 : jcd 42 9 = some (.new 183, 12) := by decide +kernel
theorem z42_12 : jcd 42 12 = some (.dup, 13) := by decide +kernel
theorem z42_13 : jcd 42 13 = some (.ldc 185, 15) := by decide +kernel
theorem z42_15 : jcd 42 15 = some (.invokespecial 187, 18) := by decide +kernel
theorem z42_18 : jcd 42 18 = some (.athrow, 19) := by decide +kernel
theorem z42_19 : jcd 42 19 = some (.iconst 0, 20) := by decide +kernel
theorem z42_20 : jcd 42 20 = some (.istore 3, 21) := by decide +kernel
theorem z42_21 : jcd 42 21 = some (.iconst 0, 22) := by decide +kernel
theorem z42_22 : jcd 42 22 = some (.istore 4, 24) := by decide +kernel
theorem z42_24 : jcd 42 24 = some (.iload 4, 26) := by decide +kernel
theorem z42_26 : jcd 42 26 = some (.bipush 20, 28) := by decide +kernel
theorem z42_28 : jcd 42 28 = some (.if_icmp .ge 64, 31) := by decide +kernel
theorem z42_31 : jcd 42 31 = some (.aload 0, 32) := by decide +kernel
theorem z42_32 : jcd 42 32 = some (.iload 4, 34) := by decide +kernel
theorem z42_34 : jcd 42 34 = some (.iload 1, 35) := by decide +kernel
theorem z42_35 : jcd 42 35 = some (.invokevirtual 144, 38) := by decide +kernel
theorem z42_38 : jcd 42 38 = some (.aload 0, 39) := by decide +kernel
theorem z42_39 : jcd 42 39 = some (.getfield 30, 42) := by decide +kernel
theorem z42_42 : jcd 42 42 = some (.iconst 1, 43) := by decide +kernel
theorem z42_43 : jcd 42 43 = some (.iadd, 44) := by decide +kernel
theorem z42_44 : jcd 42 44 = some (.if_icmp .ne 58, 47) := by decide +kernel
theorem z42_47 : jcd 42 47 = some (.iload 3, 48) := by decide +kernel
theorem z42_48 : jcd 42 48 = some (.iload 2, 49) := by decide +kernel
theorem z42_49 : jcd 42 49 = some (.if_icmp .ne 55, 52) := by decide +kernel
theorem z42_52 : jcd 42 52 = some (.iload 4, 54) := by decide +kernel
theorem z42_54 : jcd 42 54 = some (.ireturn, 55) := by decide +kernel
theorem z42_55 : jcd 42 55 = some (.iinc 3 1, 58) := by decide +kernel
theorem z42_58 : jcd 42 58 = some (.iinc 4 1, 61) := by decide +kernel
theorem z42_61 : jcd 42 61 = some (.goto 24, 64) := by decide +kernel
theorem z42_64 : jcd 42 64 = some (.iconst (-1), 65) := by decide +kernel
theorem z42_65 : jcd 42 65 = some (.ireturn, 66) := by decide +kernel
theorem z43_0 : jcd 43 0 = some (.iload 1, 1) := by decide +kernel
theorem z43_1 : jcd 43 1 = some (.tableswitch 61 0 3 #[32, 40, 48, 56], 32) := by decide +kernel
theorem z43_32 : jcd 43 32 = some (.aload 0, 33) := by decide +kernel
theorem z43_33 : jcd 43 33 = some (.getfield 12, 36) := by decide +kernel
theorem z43_36 : jcd 43 36 = some (.getfield 188, 39) := by decide +kernel
theorem z43_39 : jcd 43 39 = some (.ireturn, 40) := by decide +kernel
theorem z43_40 : jcd 43 40 = some (.aload 0, 41) := by decide +kernel
theorem z43_41 : jcd 43 41 = some (.getfield 19, 44) := by decide +kernel
theorem z43_44 : jcd 43 44 = some (.getfield 191, 47) := by decide +kernel
theorem z43_47 : jcd 43 47 = some (.ireturn, 48) := by decide +kernel
theorem z43_48 : jcd 43 48 = some (.aload 0, 49) := by decide +kernel
theorem z43_49 : jcd 43 49 = some (.getfield 19, 52) := by decide +kernel
theorem z43_52 : jcd 43 52 = some (.getfield 194, 55) := by decide +kernel
theorem z43_55 : jcd 43 55 = some (.ireturn, 56) := by decide +kernel
theorem z43_56 : jcd 43 56 = some (.aload 0, 57) := by decide +kernel
theorem z43_57 : jcd 43 57 = some (.invokevirtual 197, 60) := by decide +kernel
theorem z43_60 : jcd 43 60 = some (.ireturn, 61) := by decide +kernel
theorem z43_61 : jcd 43 61 = some (.new 175, 64) := by decide +kernel
theorem z43_64 : jcd 43 64 = some (.dup, 65) := by decide +kernel
theorem z43_65 : jcd 43 65 = some (.ldc 200, 67) := by decide +kernel
theorem z43_67 : jcd 43 67 = some (.invokespecial 179, 70) := by decide +kernel
theorem z43_70 : jcd 43 70 = some (.athrow, 71) := by decide +kernel
theorem z44_0 : jcd 44 0 = some (.iload 1, 1) := by decide +kernel
theorem z44_1 : jcd 44 1 = some (.ifCond .lt 15, 4) := by decide +kernel
theorem z44_4 : jcd 44 4 = some (.iload 1, 5) := by decide +kernel
theorem z44_5 : jcd 44 5 = some (.aload 0, 6) := by decide +kernel
theorem z44_6 : jcd 44 6 = some (.getfield 12, 9) := by decide +kernel
theorem z44_9 : jcd 44 9 = some (.getfield 188, 12) := by decide +kernel
theorem z44_12 : jcd 44 12 = some (.if_icmp .lt 25, 15) := by decide +kernel
theorem z44_15 : jcd 44 15 = some (.new 175, 18) := by decide +kernel
theorem z44_18 : jcd 44 18 = some (.dup, 19) := by decide +kernel
theorem z44_19 : jcd 44 19 = some (.ldc 202, 21) := by decide +kernel
theorem z44_21 : jcd 44 21 = some (.invokespecial 179, 24) := by decide +kernel
theorem z44_24 : jcd 44 24 = some (.athrow, 25) := by decide +kernel
theorem z44_25 : jcd 44 25 = some (.return_, 26) := by decide +kernel
theorem z45_0 : jcd 45 0 = some (.iload 1, 1) := by decide +kernel
theorem z45_1 : jcd 45 1 = some (.ifCond .lt 10, 4) := by decide +kernel
theorem z45_4 : jcd 45 4 = some (.iload 1, 5) := by decide +kernel
theorem z45_5 : jcd 45 5 = some (.bipush 20, 7) := by decide +kernel
theorem z45_7 : jcd 45 7 = some (.if_icmp .lt 20, 10) := by decide +kernel
theorem z45_10 : jcd 45 10 = some (.new 175, 13) := by decide +kernel
theorem z45_13 : jcd 45 13 = some (.dup, 14) := by decide +kernel
theorem z45_14 : jcd 45 14 = some (.ldc 204, 16) := by decide +kernel
theorem z45_16 : jcd 45 16 = some (.invokespecial 179, 19) := by decide +kernel
theorem z45_19 : jcd 45 19 = some (.athrow, 20) := by decide +kernel
theorem z45_20 : jcd 45 20 = some (.aload 0, 21) := by decide +kernel
theorem z45_21 : jcd 45 21 = some (.iload 2, 22) := by decide +kernel
theorem z45_22 : jcd 45 22 = some (.invokevirtual 56, 25) := by decide +kernel
theorem z45_25 : jcd 45 25 = some (.return_, 26) := by decide +kernel
theorem z46_0 : jcd 46 0 = some (.iload 0, 1) := by decide +kernel
theorem z46_1 : jcd 46 1 = some (.iload 1, 2) := by decide +kernel
theorem z46_2 : jcd 46 2 = some (.if_icmp .lt 10, 5) := by decide +kernel
theorem z46_5 : jcd 46 5 = some (.iload 0, 6) := by decide +kernel
theorem z46_6 : jcd 46 6 = some (.iload 2, 7) := by decide +kernel
theorem z46_7 : jcd 46 7 = some (.if_icmp .le 20, 10) := by decide +kernel
theorem z46_10 : jcd 46 10 = some (.new 183, 13) := by decide +kernel
theorem z46_13 : jcd 46 13 = some (.dup, 14) := by decide +kernel
theorem z46_14 : jcd 46 14 = some (.ldc 206, 16) := by decide +kernel
theorem z46_16 : jcd 46 16 = some (.invokespecial 187, 19) := by decide +kernel
theorem z46_19 : jcd 46 19 = some (.athrow, 20) := by decide +kernel
theorem z46_20 : jcd 46 20 = some (.return_, 21) := by decide +kernel
theorem z47_0 : jcd 47 0 = some (.aload 0, 1) := by decide +kernel
theorem z47_1 : jcd 47 1 = some (.getfield 19, 4) := by decide +kernel
theorem z47_4 : jcd 47 4 = some (.invokevirtual 208, 7) := by decide +kernel
theorem z47_7 : jcd 47 7 = some (.ifCond .eq 20, 10) := by decide +kernel
theorem z47_10 : jcd 47 10 = some (.new 45, 13) := by decide +kernel
theorem z47_13 : jcd 47 13 = some (.dup, 14) := by decide +kernel
theorem z47_14 : jcd 47 14 = some (.ldc 209, 16) := by decide +kernel
theorem z47_16 : jcd 47 16 = some (.invokespecial 49, 19) := by decide +kernel
theorem z47_19 : jcd 47 19 = some (.athrow, 20) := by decide +kernel
theorem z47_20 : jcd 47 20 = some (.return_, 21) := by decide +kernel
theorem z48_0 : jcd 48 0 = some (.iload 0, 1) := by decide +kernel
theorem z48_1 : jcd 48 1 = some (.bipush 16, 3) := by decide +kernel
theorem z48_3 : jcd 48 3 = some (.imul, 4) := by decide +kernel
theorem z48_4 : jcd 48 4 = some (.iload 1, 5) := by decide +kernel
theorem z48_5 : jcd 48 5 = some (.iadd, 6) := by decide +kernel
theorem z48_6 : jcd 48 6 = some (.ireturn, 7) := by decide +kernel
theorem z49_0 : jcd 49 0 = some (.iload 0, 1) := by decide +kernel
theorem z49_1 : jcd 49 1 = some (.iload 1, 2) := by decide +kernel
theorem z49_2 : jcd 49 2 = some (.ishr, 3) := by decide +kernel
theorem z49_3 : jcd 49 3 = some (.iconst 1, 4) := by decide +kernel
theorem z49_4 : jcd 49 4 = some (.iand, 5) := by decide +kernel
theorem z49_5 : jcd 49 5 = some (.ifCond .eq 12, 8) := by decide +kernel
theorem z49_8 : jcd 49 8 = some (.iconst 1, 9) := by decide +kernel
theorem z49_9 : jcd 49 9 = some (.goto 13, 12) := by decide +kernel
theorem z49_12 : jcd 49 12 = some (.iconst 0, 13) := by decide +kernel
theorem z49_13 : jcd 49 13 = some (.ireturn, 14) := by decide +kernel
theorem z50_0 : jcd 50 0 = some (.lload 0, 1) := by decide +kernel
theorem z50_1 : jcd 50 1 = some (.iconst 4, 2) := by decide +kernel
theorem z50_2 : jcd 50 2 = some (.iload 2, 3) := by decide +kernel
theorem z50_3 : jcd 50 3 = some (.imul, 4) := by decide +kernel
theorem z50_4 : jcd 50 4 = some (.lushr, 5) := by decide +kernel
theorem z50_5 : jcd 50 5 = some (.ldc2_w 211, 8) := by decide +kernel
theorem z50_8 : jcd 50 8 = some (.land, 9) := by decide +kernel
theorem z50_9 : jcd 50 9 = some (.l2i, 10) := by decide +kernel
theorem z50_10 : jcd 50 10 = some (.ireturn, 11) := by decide +kernel
theorem z51_0 : jcd 51 0 = some (.aload 0, 1) := by decide +kernel
theorem z51_1 : jcd 51 1 = some (.getfield 12, 4) := by decide +kernel
theorem z51_4 : jcd 51 4 = some (.iload 2, 5) := by decide +kernel
theorem z51_5 : jcd 51 5 = some (.invokevirtual 213, 8) := by decide +kernel
theorem z51_8 : jcd 51 8 = some (.aload 0, 9) := by decide +kernel
theorem z51_9 : jcd 51 9 = some (.getfield 19, 12) := by decide +kernel
theorem z51_12 : jcd 51 12 = some (.iload 1, 13) := by decide +kernel
theorem z51_13 : jcd 51 13 = some (.iload 2, 14) := by decide +kernel
theorem z51_14 : jcd 51 14 = some (.invokestatic 129, 17) := by decide +kernel
theorem z51_17 : jcd 51 17 = some (.aload 0, 18) := by decide +kernel
theorem z51_18 : jcd 51 18 = some (.getfield 30, 21) := by decide +kernel
theorem z51_21 : jcd 51 21 = some (.iload 3, 22) := by decide +kernel
theorem z51_22 : jcd 51 22 = some (.invokevirtual 216, 25) := by decide +kernel
theorem z51_25 : jcd 51 25 = some (.ireturn, 26) := by decide +kernel
theorem z52_0 : jcd 52 0 = some (.aload 0, 1) := by decide +kernel
theorem z52_1 : jcd 52 1 = some (.aload 0, 2) := by decide +kernel
theorem z52_2 : jcd 52 2 = some (.getfield 19, 5) := by decide +kernel
theorem z52_5 : jcd 52 5 = some (.getfield 217, 8) := by decide +kernel
theorem z52_8 : jcd 52 8 = some (.iload 1, 9) := by decide +kernel
theorem z52_9 : jcd 52 9 = some (.iload 2, 10) := by decide +kernel
theorem z52_10 : jcd 52 10 = some (.invokestatic 129, 13) := by decide +kernel
theorem z52_13 : jcd 52 13 = some (.iaload, 14) := by decide +kernel
theorem z52_14 : jcd 52 14 = some (.iload 2, 15) := by decide +kernel
theorem z52_15 : jcd 52 15 = some (.invokevirtual 141, 18) := by decide +kernel
theorem z52_18 : jcd 52 18 = some (.ireturn, 19) := by decide +kernel
theorem z53_0 : jcd 53 0 = some (.iload 1, 1) := by decide +kernel
theorem z53_1 : jcd 53 1 = some (.iconst (-1), 2) := by decide +kernel
theorem z53_2 : jcd 53 2 = some (.if_icmp .ne 7, 5) := by decide +kernel
theorem z53_5 : jcd 53 5 = some (.iconst (-1), 6) := by decide +kernel
theorem z53_6 : jcd 53 6 = some (.ireturn, 7) := by decide +kernel
theorem z53_7 : jcd 53 7 = some (.aload 0, 8) := by decide +kernel
theorem z53_8 : jcd 53 8 = some (.getfield 19, 11) := by decide +kernel
theorem z53_11 : jcd 53 11 = some (.getfield 220, 14) := by decide +kernel
theorem z53_14 : jcd 53 14 = some (.iload 1, 15) := by decide +kernel
theorem z53_15 : jcd 53 15 = some (.iaload, 16) := by decide +kernel
theorem z53_16 : jcd 53 16 = some (.aload 0, 17) := by decide +kernel
theorem z53_17 : jcd 53 17 = some (.getfield 12, 20) := by decide +kernel
theorem z53_20 : jcd 53 20 = some (.getfield 223, 23) := by decide +kernel
theorem z53_23 : jcd 53 23 = some (.iload 2, 24) := by decide +kernel
theorem z53_24 : jcd 53 24 = some (.iaload, 25) := by decide +kernel
theorem z53_25 : jcd 53 25 = some (.iadd, 26) := by decide +kernel
theorem z53_26 : jcd 53 26 = some (.aload 0, 27) := by decide +kernel
theorem z53_27 : jcd 53 27 = some (.getfield 19, 30) := by decide +kernel
theorem z53_30 : jcd 53 30 = some (.getfield 226, 33) := by decide +kernel
theorem z53_33 : jcd 53 33 = some (.iload 1, 34) := by decide +kernel
theorem z53_34 : jcd 53 34 = some (.iaload, 35) := by decide +kernel
theorem z53_35 : jcd 53 35 = some (.iadd, 36) := by decide +kernel
theorem z53_36 : jcd 53 36 = some (.ireturn, 37) := by decide +kernel
theorem z54_0 : jcd 54 0 = some (.aload 0, 1) := by decide +kernel
theorem z54_1 : jcd 54 1 = some (.getfield 30, 4) := by decide +kernel
theorem z54_4 : jcd 54 4 = some (.aload 0, 5) := by decide +kernel
theorem z54_5 : jcd 54 5 = some (.iload 1, 6) := by decide +kernel
theorem z54_6 : jcd 54 6 = some (.iload 2, 7) := by decide +kernel
theorem z54_7 : jcd 54 7 = some (.invokevirtual 144, 10) := by decide +kernel
theorem z54_10 : jcd 54 10 = some (.if_icmp .ge 17, 13) := by decide +kernel
theorem z54_13 : jcd 54 13 = some (.iconst 1, 14) := by decide +kernel
theorem z54_14 : jcd 54 14 = some (.goto 18, 17) := by decide +kernel
theorem z54_17 : jcd 54 17 = some (.iconst 0, 18) := by decide +kernel
theorem z54_18 : jcd 54 18 = some (.ireturn, 19) := by decide +kernel
theorem z55_0 : jcd 55 0 = some (.aload 0, 1) := by decide +kernel
theorem z55_1 : jcd 55 1 = some (.iload 1, 2) := by decide +kernel
theorem z55_2 : jcd 55 2 = some (.iload 2, 3) := by decide +kernel
theorem z55_3 : jcd 55 3 = some (.invokevirtual 229, 6) := by decide +kernel
theorem z55_6 : jcd 55 6 = some (.ifCond .ne 11, 9) := by decide +kernel
theorem z55_9 : jcd 55 9 = some (.iconst 1, 10) := by decide +kernel
theorem z55_10 : jcd 55 10 = some (.ireturn, 11) := by decide +kernel
theorem z55_11 : jcd 55 11 = some (.aload 0, 12) := by decide +kernel
theorem z55_12 : jcd 55 12 = some (.getfield 12, 15) := by decide +kernel
theorem z55_15 : jcd 55 15 = some (.getfield 119, 18) := by decide +kernel
theorem z55_18 : jcd 55 18 = some (.iload 2, 19) := by decide +kernel
theorem z55_19 : jcd 55 19 = some (.iaload, 20) := by decide +kernel
theorem z55_20 : jcd 55 20 = some (.iload 1, 21) := by decide +kernel
theorem z55_21 : jcd 55 21 = some (.invokestatic 73, 24) := by decide +kernel
theorem z55_24 : jcd 55 24 = some (.ifCond .eq 29, 27) := by decide +kernel
theorem z55_27 : jcd 55 27 = some (.iconst 2, 28) := by decide +kernel
theorem z55_28 : jcd 55 28 = some (.ireturn, 29) := by decide +kernel
theorem z55_29 : jcd 55 29 = some (.iload 1, 30) := by decide +kernel
theorem z55_30 : jcd 55 30 = some (.iload 2, 31) := by decide +kernel
theorem z55_31 : jcd 55 31 = some (.invokestatic 129, 34) := by decide +kernel
theorem z55_34 : jcd 55 34 = some (.istore 3, 35) := by decide +kernel
theorem z55_35 : jcd 55 35 = some (.aload 0, 36) := by decide +kernel
theorem z55_36 : jcd 55 36 = some (.getfield 19, 39) := by decide +kernel
theorem z55_39 : jcd 55 39 = some (.getfield 147, 42) := by decide +kernel
theorem z55_42 : jcd 55 42 = some (.iload 3, 43) := by decide +kernel
theorem z55_43 : jcd 55 43 = some (.iaload, 44) := by decide +kernel
theorem z55_44 : jcd 55 44 = some (.iconst 3, 45) := by decide +kernel
theorem z55_45 : jcd 55 45 = some (.if_icmp .lt 52, 48) := by decide +kernel
theorem z55_48 : jcd 55 48 = some (.iconst 1, 49) := by decide +kernel
theorem z55_49 : jcd 55 49 = some (.goto 53, 52) := by decide +kernel
theorem z55_52 : jcd 55 52 = some (.iconst 0, 53) := by decide +kernel
theorem z55_53 : jcd 55 53 = some (.istore 4, 55) := by decide +kernel
theorem z55_55 : jcd 55 55 = some (.iload 4, 57) := by decide +kernel
theorem z55_57 : jcd 55 57 = some (.ifCond .eq 83, 60) := by decide +kernel
theorem z55_60 : jcd 55 60 = some (.aload 0, 61) := by decide +kernel
theorem z55_61 : jcd 55 61 = some (.getfield 30, 64) := by decide +kernel
theorem z55_64 : jcd 55 64 = some (.aload 0, 65) := by decide +kernel
theorem z55_65 : jcd 55 65 = some (.getfield 19, 68) := by decide +kernel
theorem z55_68 : jcd 55 68 = some (.getfield 232, 71) := by decide +kernel
theorem z55_71 : jcd 55 71 = some (.iload 3, 72) := by decide +kernel
theorem z55_72 : jcd 55 72 = some (.iaload, 73) := by decide +kernel
theorem z55_73 : jcd 55 73 = some (.isub, 74) := by decide +kernel
theorem z55_74 : jcd 55 74 = some (.aload 0, 75) := by decide +kernel
theorem z55_75 : jcd 55 75 = some (.getfield 34, 78) := by decide +kernel
theorem z55_78 : jcd 55 78 = some (.if_icmp .ge 83, 81) := by decide +kernel
theorem z55_81 : jcd 55 81 = some (.iconst 3, 82) := by decide +kernel
theorem z55_82 : jcd 55 82 = some (.ireturn, 83) := by decide +kernel
theorem z55_83 : jcd 55 83 = some (.iconst 0, 84) := by decide +kernel
theorem z55_84 : jcd 55 84 = some (.ireturn, 85) := by decide +kernel
theorem z56_0 : jcd 56 0 = some (.iconst 0, 1) := by decide +kernel
theorem z56_1 : jcd 56 1 = some (.istore 3, 2) := by decide +kernel
theorem z56_2 : jcd 56 2 = some (.iload 3, 3) := by decide +kernel
theorem z56_3 : jcd 56 3 = some (.aload 0, 4) := by decide +kernel
theorem z56_4 : jcd 56 4 = some (.getfield 12, 7) := by decide +kernel
theorem z56_7 : jcd 56 7 = some (.getfield 188, 10) := by decide +kernel
theorem z56_10 : jcd 56 10 = some (.if_icmp .ge 46, 13) := by decide +kernel
theorem z56_13 : jcd 56 13 = some (.aload 0, 14) := by decide +kernel
theorem z56_14 : jcd 56 14 = some (.getfield 12, 17) := by decide +kernel
theorem z56_17 : jcd 56 17 = some (.getfield 69, 20) := by decide +kernel
theorem z56_20 : jcd 56 20 = some (.iload 2, 21) := by decide +kernel
theorem z56_21 : jcd 56 21 = some (.iaload, 22) := by decide +kernel
theorem z56_22 : jcd 56 22 = some (.iload 3, 23) := by decide +kernel
theorem z56_23 : jcd 56 23 = some (.invokestatic 73, 26) := by decide +kernel
theorem z56_26 : jcd 56 26 = some (.ifCond .eq 40, 29) := by decide +kernel
theorem z56_29 : jcd 56 29 = some (.aload 0, 30) := by decide +kernel
theorem z56_30 : jcd 56 30 = some (.iload 1, 31) := by decide +kernel
theorem z56_31 : jcd 56 31 = some (.iload 3, 32) := by decide +kernel
theorem z56_32 : jcd 56 32 = some (.invokevirtual 124, 35) := by decide +kernel
theorem z56_35 : jcd 56 35 = some (.ifCond .ne 40, 38) := by decide +kernel
theorem z56_38 : jcd 56 38 = some (.iconst 0, 39) := by decide +kernel
theorem z56_39 : jcd 56 39 = some (.ireturn, 40) := by decide +kernel
theorem z56_40 : jcd 56 40 = some (.iinc 3 1, 43) := by decide +kernel
theorem z56_43 : jcd 56 43 = some (.goto 2, 46) := by decide +kernel
theorem z56_46 : jcd 56 46 = some (.iconst 1, 47) := by decide +kernel
theorem z56_47 : jcd 56 47 = some (.ireturn, 48) := by decide +kernel
theorem z57_0 : jcd 57 0 = some (.aload 0, 1) := by decide +kernel
theorem z57_1 : jcd 57 1 = some (.getfield 12, 4) := by decide +kernel
theorem z57_4 : jcd 57 4 = some (.getfield 85, 7) := by decide +kernel
theorem z57_7 : jcd 57 7 = some (.iload 1, 8) := by decide +kernel
theorem z57_8 : jcd 57 8 = some (.iaload, 9) := by decide +kernel
theorem z57_9 : jcd 57 9 = some (.aload 0, 10) := by decide +kernel
theorem z57_10 : jcd 57 10 = some (.iload 1, 11) := by decide +kernel
theorem z57_11 : jcd 57 11 = some (.invokevirtual 235, 14) := by decide +kernel
theorem z57_14 : jcd 57 14 = some (.imul, 15) := by decide +kernel
theorem z57_15 : jcd 57 15 = some (.istore 2, 16) := by decide +kernel
theorem z57_16 : jcd 57 16 = some (.iconst 0, 17) := by decide +kernel
theorem z57_17 : jcd 57 17 = some (.iload 2, 18) := by decide +kernel
theorem z57_18 : jcd 57 18 = some (.aload 0, 19) := by decide +kernel
theorem z57_19 : jcd 57 19 = some (.getfield 12, 22) := by decide +kernel
theorem z57_22 : jcd 57 22 = some (.getfield 238, 25) := by decide +kernel
theorem z57_25 : jcd 57 25 = some (.iload 1, 26) := by decide +kernel
theorem z57_26 : jcd 57 26 = some (.iaload, 27) := by decide +kernel
theorem z57_27 : jcd 57 27 = some (.isub, 28) := by decide +kernel
theorem z57_28 : jcd 57 28 = some (.invokestatic 241, 31) := by decide +kernel
theorem z57_31 : jcd 57 31 = some (.ireturn, 32) := by decide +kernel
theorem z58_0 : jcd 58 0 = some (.iconst 0, 1) := by decide +kernel
theorem z58_1 : jcd 58 1 = some (.istore 2, 2) := by decide +kernel
theorem z58_2 : jcd 58 2 = some (.iconst 0, 3) := by decide +kernel
theorem z58_3 : jcd 58 3 = some (.istore 3, 4) := by decide +kernel
theorem z58_4 : jcd 58 4 = some (.iload 3, 5) := by decide +kernel
theorem z58_5 : jcd 58 5 = some (.bipush 20, 7) := by decide +kernel
theorem z58_7 : jcd 58 7 = some (.if_icmp .ge 44, 10) := by decide +kernel
theorem z58_10 : jcd 58 10 = some (.aload 0, 11) := by decide +kernel
theorem z58_11 : jcd 58 11 = some (.getfield 12, 14) := by decide +kernel
theorem z58_14 : jcd 58 14 = some (.getfield 119, 17) := by decide +kernel
theorem z58_17 : jcd 58 17 = some (.iload 1, 18) := by decide +kernel
theorem z58_18 : jcd 58 18 = some (.iaload, 19) := by decide +kernel
theorem z58_19 : jcd 58 19 = some (.iload 3, 20) := by decide +kernel
theorem z58_20 : jcd 58 20 = some (.invokestatic 73, 23) := by decide +kernel
theorem z58_23 : jcd 58 23 = some (.ifCond .eq 38, 26) := by decide +kernel
theorem z58_26 : jcd 58 26 = some (.aload 0, 27) := by decide +kernel
theorem z58_27 : jcd 58 27 = some (.iload 3, 28) := by decide +kernel
theorem z58_28 : jcd 58 28 = some (.iload 1, 29) := by decide +kernel
theorem z58_29 : jcd 58 29 = some (.invokevirtual 124, 32) := by decide +kernel
theorem z58_32 : jcd 58 32 = some (.ifCond .eq 38, 35) := by decide +kernel
theorem z58_35 : jcd 58 35 = some (.iinc 2 1, 38) := by decide +kernel
theorem z58_38 : jcd 58 38 = some (.iinc 3 1, 41) := by decide +kernel
theorem z58_41 : jcd 58 41 = some (.goto 4, 44) := by decide +kernel
theorem z58_44 : jcd 58 44 = some (.iload 2, 45) := by decide +kernel
theorem z58_45 : jcd 58 45 = some (.ireturn, 46) := by decide +kernel
theorem z59_0 : jcd 59 0 = some (.iconst 0, 1) := by decide +kernel
theorem z59_1 : jcd 59 1 = some (.istore 1, 2) := by decide +kernel
theorem z59_2 : jcd 59 2 = some (.iconst 0, 3) := by decide +kernel
theorem z59_3 : jcd 59 3 = some (.istore 2, 4) := by decide +kernel
theorem z59_4 : jcd 59 4 = some (.iload 2, 5) := by decide +kernel
theorem z59_5 : jcd 59 5 = some (.aload 0, 6) := by decide +kernel
theorem z59_6 : jcd 59 6 = some (.getfield 12, 9) := by decide +kernel
theorem z59_9 : jcd 59 9 = some (.getfield 188, 12) := by decide +kernel
theorem z59_12 : jcd 59 12 = some (.if_icmp .ge 29, 15) := by decide +kernel
theorem z59_15 : jcd 59 15 = some (.iload 1, 16) := by decide +kernel
theorem z59_16 : jcd 59 16 = some (.aload 0, 17) := by decide +kernel
theorem z59_17 : jcd 59 17 = some (.iload 2, 18) := by decide +kernel
theorem z59_18 : jcd 59 18 = some (.invokevirtual 235, 21) := by decide +kernel
theorem z59_21 : jcd 59 21 = some (.iadd, 22) := by decide +kernel
theorem z59_22 : jcd 59 22 = some (.istore 1, 23) := by decide +kernel
theorem z59_23 : jcd 59 23 = some (.iinc 2 1, 26) := by decide +kernel
theorem z59_26 : jcd 59 26 = some (.goto 4, 29) := by decide +kernel
theorem z59_29 : jcd 59 29 = some (.iload 1, 30) := by decide +kernel
theorem z59_30 : jcd 59 30 = some (.ireturn, 31) := by decide +kernel
theorem z60_0 : jcd 60 0 = some (.iconst 0, 1) := by decide +kernel
theorem z60_1 : jcd 60 1 = some (.istore 3, 2) := by decide +kernel
theorem z60_2 : jcd 60 2 = some (.iconst 0, 3) := by decide +kernel
theorem z60_3 : jcd 60 3 = some (.istore 4, 5) := by decide +kernel
theorem z60_5 : jcd 60 5 = some (.iload 4, 7) := by decide +kernel
theorem z60_7 : jcd 60 7 = some (.bipush 20, 9) := by decide +kernel
theorem z60_9 : jcd 60 9 = some (.if_icmp .ge 50, 12) := by decide +kernel
theorem z60_12 : jcd 60 12 = some (.aload 0, 13) := by decide +kernel
theorem z60_13 : jcd 60 13 = some (.iload 4, 15) := by decide +kernel
theorem z60_15 : jcd 60 15 = some (.iload 1, 16) := by decide +kernel
theorem z60_16 : jcd 60 16 = some (.invokevirtual 144, 19) := by decide +kernel
theorem z60_19 : jcd 60 19 = some (.aload 0, 20) := by decide +kernel
theorem z60_20 : jcd 60 20 = some (.getfield 30, 23) := by decide +kernel
theorem z60_23 : jcd 60 23 = some (.isub, 24) := by decide +kernel
theorem z60_24 : jcd 60 24 = some (.istore 5, 26) := by decide +kernel
theorem z60_26 : jcd 60 26 = some (.iload 5, 28) := by decide +kernel
theorem z60_28 : jcd 60 28 = some (.ifCond .le 44, 31) := by decide +kernel
theorem z60_31 : jcd 60 31 = some (.iload 5, 33) := by decide +kernel
theorem z60_33 : jcd 60 33 = some (.iload 2, 34) := by decide +kernel
theorem z60_34 : jcd 60 34 = some (.if_icmp .gt 44, 37) := by decide +kernel
theorem z60_37 : jcd 60 37 = some (.iload 3, 38) := by decide +kernel
theorem z60_38 : jcd 60 38 = some (.iconst 1, 39) := by decide +kernel
theorem z60_39 : jcd 60 39 = some (.iload 4, 41) := by decide +kernel
theorem z60_41 : jcd 60 41 = some (.ishl, 42) := by decide +kernel
theorem z60_42 : jcd 60 42 = some (.ior, 43) := by decide +kernel
theorem z60_43 : jcd 60 43 = some (.istore 3, 44) := by decide +kernel
theorem z60_44 : jcd 60 44 = some (.iinc 4 1, 47) := by decide +kernel
theorem z60_47 : jcd 60 47 = some (.goto 5, 50) := by decide +kernel
theorem z60_50 : jcd 60 50 = some (.iload 3, 51) := by decide +kernel
theorem z60_51 : jcd 60 51 = some (.ireturn, 52) := by decide +kernel
end
section
theorem z61_0 : jcd 61 0 = some (.aload 0, 1) := by decide +kernel
theorem z61_1 : jcd 61 1 = some (.invokespecial 1, 4) := by decide +kernel
theorem z61_4 : jcd 61 4 = some (.aload 0, 5) := by decide +kernel
theorem z61_5 : jcd 61 5 = some (.bipush 30, 7) := by decide +kernel
theorem z61_7 : jcd 61 7 = some (.putfield 7, 10) := by decide +kernel
theorem z61_10 : jcd 61 10 = some (.aload 0, 11) := by decide +kernel
theorem z61_11 : jcd 61 11 = some (.bipush 16, 13) := by decide +kernel
theorem z61_13 : jcd 61 13 = some (.newarray .int, 15) := by decide +kernel
theorem z61_15 : jcd 61 15 = some (.putfield 13, 18) := by decide +kernel
theorem z61_18 : jcd 61 18 = some (.aload 0, 19) := by decide +kernel
theorem z61_19 : jcd 61 19 = some (.bipush 16, 21) := by decide +kernel
theorem z61_21 : jcd 61 21 = some (.newarray .int, 23) := by decide +kernel
theorem z61_23 : jcd 61 23 = some (.putfield 17, 26) := by decide +kernel
theorem z61_26 : jcd 61 26 = some (.aload 0, 27) := by decide +kernel
theorem z61_27 : jcd 61 27 = some (.bipush 16, 29) := by decide +kernel
theorem z61_29 : jcd 61 29 = some (.newarray .int, 31) := by decide +kernel
theorem z61_31 : jcd 61 31 = some (.putfield 20, 34) := by decide +kernel
theorem z61_34 : jcd 61 34 = some (.aload 0, 35) := by decide +kernel
theorem z61_35 : jcd 61 35 = some (.bipush 16, 37) := by decide +kernel
theorem z61_37 : jcd 61 37 = some (.newarray .int, 39) := by decide +kernel
theorem z61_39 : jcd 61 39 = some (.putfield 23, 42) := by decide +kernel
theorem z61_42 : jcd 61 42 = some (.aload 0, 43) := by decide +kernel
theorem z61_43 : jcd 61 43 = some (.sipush 256, 46) := by decide +kernel
theorem z61_46 : jcd 61 46 = some (.newarray .boolean, 48) := by decide +kernel
theorem z61_48 : jcd 61 48 = some (.putfield 26, 51) := by decide +kernel
theorem z61_51 : jcd 61 51 = some (.aload 0, 52) := by decide +kernel
theorem z61_52 : jcd 61 52 = some (.sipush 320, 55) := by decide +kernel
theorem z61_55 : jcd 61 55 = some (.newarray .boolean, 57) := by decide +kernel
theorem z61_57 : jcd 61 57 = some (.putfield 30, 60) := by decide +kernel
theorem z61_60 : jcd 61 60 = some (.aload 0, 61) := by decide +kernel
theorem z61_61 : jcd 61 61 = some (.sipush 300, 64) := by decide +kernel
theorem z61_64 : jcd 61 64 = some (.newarray .int, 66) := by decide +kernel
theorem z61_66 : jcd 61 66 = some (.putfield 33, 69) := by decide +kernel
theorem z61_69 : jcd 61 69 = some (.aload 0, 70) := by decide +kernel
theorem z61_70 : jcd 61 70 = some (.sipush 300, 73) := by decide +kernel
theorem z61_73 : jcd 61 73 = some (.newarray .int, 75) := by decide +kernel
theorem z61_75 : jcd 61 75 = some (.putfield 36, 78) := by decide +kernel
theorem z61_78 : jcd 61 78 = some (.aload 0, 79) := by decide +kernel
theorem z61_79 : jcd 61 79 = some (.sipush 300, 82) := by decide +kernel
theorem z61_82 : jcd 61 82 = some (.newarray .int, 84) := by decide +kernel
theorem z61_84 : jcd 61 84 = some (.putfield 39, 87) := by decide +kernel
theorem z61_87 : jcd 61 87 = some (.aload 0, 88) := by decide +kernel
theorem z61_88 : jcd 61 88 = some (.sipush 300, 91) := by decide +kernel
theorem z61_91 : jcd 61 91 = some (.newarray .boolean, 93) := by decide +kernel
theorem z61_93 : jcd 61 93 = some (.putfield 42, 96) := by decide +kernel
theorem z61_96 : jcd 61 96 = some (.aload 0, 97) := by decide +kernel
theorem z61_97 : jcd 61 97 = some (.sipush 300, 100) := by decide +kernel
theorem z61_100 : jcd 61 100 = some (.newarray .int, 102) := by decide +kernel
theorem z61_102 : jcd 61 102 = some (.putfield 45, 105) := by decide +kernel
theorem z61_105 : jcd 61 105 = some (.aload 0, 106) := by decide +kernel
theorem z61_106 : jcd 61 106 = some (.sipush 15000, 109) := by decide +kernel
theorem z61_109 : jcd 61 109 = some (.newarray .int, 111) := by decide +kernel
theorem z61_111 : jcd 61 111 = some (.putfield 48, 114) := by decide +kernel
theorem z61_114 : jcd 61 114 = some (.aload 0, 115) := by decide +kernel
theorem z61_115 : jcd 61 115 = some (.sipush 320, 118) := by decide +kernel
theorem z61_118 : jcd 61 118 = some (.newarray .int, 120) := by decide +kernel
theorem z61_120 : jcd 61 120 = some (.putfield 51, 123) := by decide +kernel
theorem z61_123 : jcd 61 123 = some (.aload 0, 124) := by decide +kernel
theorem z61_124 : jcd 61 124 = some (.bipush 12, 126) := by decide +kernel
theorem z61_126 : jcd 61 126 = some (.newarray .int, 128) := by decide +kernel
theorem z61_128 : jcd 61 128 = some (.putfield 54, 131) := by decide +kernel
theorem z61_131 : jcd 61 131 = some (.aload 0, 132) := by decide +kernel
theorem z61_132 : jcd 61 132 = some (.bipush 12, 134) := by decide +kernel
theorem z61_134 : jcd 61 134 = some (.newarray .int, 136) := by decide +kernel
theorem z61_136 : jcd 61 136 = some (.putfield 57, 139) := by decide +kernel
theorem z61_139 : jcd 61 139 = some (.aload 0, 140) := by decide +kernel
theorem z61_140 : jcd 61 140 = some (.bipush 20, 142) := by decide +kernel
theorem z61_142 : jcd 61 142 = some (.newarray .int, 144) := by decide +kernel
theorem z61_144 : jcd 61 144 = some (.putfield 60, 147) := by decide +kernel
theorem z61_147 : jcd 61 147 = some (.aload 0, 148) := by decide +kernel
theorem z61_148 : jcd 61 148 = some (.sipush 240, 151) := by decide +kernel
theorem z61_151 : jcd 61 151 = some (.newarray .boolean, 153) := by decide +kernel
theorem z61_153 : jcd 61 153 = some (.putfield 63, 156) := by decide +kernel
theorem z61_156 : jcd 61 156 = some (.aload 0, 157) := by decide +kernel
theorem z61_157 : jcd 61 157 = some (.bipush 20, 159) := by decide +kernel
theorem z61_159 : jcd 61 159 = some (.newarray .int, 161) := by decide +kernel
theorem z61_161 : jcd 61 161 = some (.putfield 66, 164) := by decide +kernel
theorem z61_164 : jcd 61 164 = some (.aload 0, 165) := by decide +kernel
theorem z61_165 : jcd 61 165 = some (.bipush 20, 167) := by decide +kernel
theorem z61_167 : jcd 61 167 = some (.newarray .int, 169) := by decide +kernel
theorem z61_169 : jcd 61 169 = some (.putfield 69, 172) := by decide +kernel
theorem z61_172 : jcd 61 172 = some (.iconst 0, 173) := by decide +kernel
theorem z61_173 : jcd 61 173 = some (.istore 1, 174) := by decide +kernel
theorem z61_174 : jcd 61 174 = some (.iload 1, 175) := by decide +kernel
theorem z61_175 : jcd 61 175 = some (.sipush 320, 178) := by decide +kernel
theorem z61_178 : jcd 61 178 = some (.if_icmp .ge 194, 181) := by decide +kernel
theorem z61_181 : jcd 61 181 = some (.aload 0, 182) := by decide +kernel
theorem z61_182 : jcd 61 182 = some (.getfield 51, 185) := by decide +kernel
theorem z61_185 : jcd 61 185 = some (.iload 1, 186) := by decide +kernel
theorem z61_186 : jcd 61 186 = some (.iconst (-1), 187) := by decide +kernel
theorem z61_187 : jcd 61 187 = some (.iastore, 188) := by decide +kernel
theorem z61_188 : jcd 61 188 = some (.iinc 1 1, 191) := by decide +kernel
theorem z61_191 : jcd 61 191 = some (.goto 174, 194) := by decide +kernel
theorem z61_194 : jcd 61 194 = some (.return_, 195) := by decide +kernel
theorem z62_0 : jcd 62 0 = some (.aload 0, 1) := by decide +kernel
theorem z62_1 : jcd 62 1 = some (.getfield 72, 4) := by decide +kernel
theorem z62_4 : jcd 62 4 = some (.ireturn, 5) := by decide +kernel
theorem z63_0 : jcd 63 0 = some (.aload 0, 1) := by decide +kernel
theorem z63_1 : jcd 63 1 = some (.iload 1, 2) := by decide +kernel
theorem z63_2 : jcd 63 2 = some (.ifCond .eq 9, 5) := by decide +kernel
theorem z63_5 : jcd 63 5 = some (.iconst 1, 6) := by decide +kernel
theorem z63_6 : jcd 63 6 = some (.goto 35, 9) := by decide +kernel
theorem z63_9 : jcd 63 9 = some (.iload 2, 10) := by decide +kernel
theorem z63_10 : jcd 63 10 = some (.ifCond .eq 17, 13) := by decide +kernel
theorem z63_13 : jcd 63 13 = some (.iconst 2, 14) := by decide +kernel
theorem z63_14 : jcd 63 14 = some (.goto 35, 17) := by decide +kernel
theorem z63_17 : jcd 63 17 = some (.iload 3, 18) := by decide +kernel
theorem z63_18 : jcd 63 18 = some (.ifCond .eq 25, 21) := by decide +kernel
theorem z63_21 : jcd 63 21 = some (.iconst 3, 22) := by decide +kernel
theorem z63_22 : jcd 63 22 = some (.goto 35, 25) := by decide +kernel
theorem z63_25 : jcd 63 25 = some (.iload 4, 27) := by decide +kernel
theorem z63_27 : jcd 63 27 = some (.ifCond .eq 34, 30) := by decide +kernel
theorem z63_30 : jcd 63 30 = some (.iconst 4, 31) := by decide +kernel
theorem z63_31 : jcd 63 31 = some (.goto 35, 34) := by decide +kernel
theorem z63_34 : jcd 63 34 = some (.iconst 0, 35) := by decide +kernel
theorem z63_35 : jcd 63 35 = some (.putfield 72, 38) := by decide +kernel
theorem z63_38 : jcd 63 38 = some (.aload 0, 39) := by decide +kernel
theorem z63_39 : jcd 63 39 = some (.getfield 72, 42) := by decide +kernel
theorem z63_42 : jcd 63 42 = some (.ifCond .le 49, 45) := by decide +kernel
theorem z63_45 : jcd 63 45 = some (.iconst 1, 46) := by decide +kernel
theorem z63_46 : jcd 63 46 = some (.goto 50, 49) := by decide +kernel
theorem z63_49 : jcd 63 49 = some (.iconst 0, 50) := by decide +kernel
theorem z63_50 : jcd 63 50 = some (.ireturn, 51) := by decide +kernel
theorem z64_0 : jcd 64 0 = some (.iload 0, 1) := by decide +kernel
theorem z64_1 : jcd 64 1 = some (.iload 1, 2) := by decide +kernel
theorem z64_2 : jcd 64 2 = some (.if_icmp .lt 14, 5) := by decide +kernel
theorem z64_5 : jcd 64 5 = some (.iload 0, 6) := by decide +kernel
theorem z64_6 : jcd 64 6 = some (.iload 2, 7) := by decide +kernel
theorem z64_7 : jcd 64 7 = some (.if_icmp .gt 14, 10) := by decide +kernel
theorem z64_10 : jcd 64 10 = some (.iconst 1, 11) := by decide +kernel
theorem z64_11 : jcd 64 11 = some (.goto 15, 14) := by decide +kernel
theorem z64_14 : jcd 64 14 = some (.iconst 0, 15) := by decide +kernel
theorem z64_15 : jcd 64 15 = some (.ireturn, 16) := by decide +kernel
theorem z65_0 : jcd 65 0 = some (.iload 1, 1) := by decide +kernel
theorem z65_1 : jcd 65 1 = some (.iconst 0, 2) := by decide +kernel
theorem z65_2 : jcd 65 2 = some (.aload 0, 3) := by decide +kernel
theorem z65_3 : jcd 65 3 = some (.getfield 75, 6) := by decide +kernel
theorem z65_6 : jcd 65 6 = some (.iconst 1, 7) := by decide +kernel
theorem z65_7 : jcd 65 7 = some (.isub, 8) := by decide +kernel
theorem z65_8 : jcd 65 8 = some (.invokestatic 78, 11) := by decide +kernel
theorem z65_11 : jcd 65 11 = some (.ireturn, 12) := by decide +kernel
theorem z66_0 : jcd 66 0 = some (.iload 1, 1) := by decide +kernel
theorem z66_1 : jcd 66 1 = some (.iconst 0, 2) := by decide +kernel
theorem z66_2 : jcd 66 2 = some (.bipush 19, 4) := by decide +kernel
theorem z66_4 : jcd 66 4 = some (.invokestatic 78, 7) := by decide +kernel
theorem z66_7 : jcd 66 7 = some (.ifCond .eq 22, 10) := by decide +kernel
theorem z66_10 : jcd 66 10 = some (.aload 0, 11) := by decide +kernel
theorem z66_11 : jcd 66 11 = some (.iload 2, 12) := by decide +kernel
theorem z66_12 : jcd 66 12 = some (.invokevirtual 82, 15) := by decide +kernel
theorem z66_15 : jcd 66 15 = some (.ifCond .eq 22, 18) := by decide +kernel
theorem z66_18 : jcd 66 18 = some (.iconst 1, 19) := by decide +kernel
theorem z66_19 : jcd 66 19 = some (.goto 23, 22) := by decide +kernel
theorem z66_22 : jcd 66 22 = some (.iconst 0, 23) := by decide +kernel
theorem z66_23 : jcd 66 23 = some (.ireturn, 24) := by decide +kernel
theorem z67_0 : jcd 67 0 = some (.aload 0, 1) := by decide +kernel
theorem z67_1 : jcd 67 1 = some (.iload 1, 2) := by decide +kernel
theorem z67_2 : jcd 67 2 = some (.iconst 1, 3) := by decide +kernel
theorem z67_3 : jcd 67 3 = some (.sipush 2000, 6) := by decide +kernel
theorem z67_6 : jcd 67 6 = some (.invokestatic 78, 9) := by decide +kernel
theorem z67_9 : jcd 67 9 = some (.ifCond .eq 32, 12) := by decide +kernel
theorem z67_12 : jcd 67 12 = some (.iload 2, 13) := by decide +kernel
theorem z67_13 : jcd 67 13 = some (.iconst 0, 14) := by decide +kernel
theorem z67_14 : jcd 67 14 = some (.bipush 100, 16) := by decide +kernel
theorem z67_16 : jcd 67 16 = some (.invokestatic 78, 19) := by decide +kernel
theorem z67_19 : jcd 67 19 = some (.ifCond .eq 32, 22) := by decide +kernel
theorem z67_22 : jcd 67 22 = some (.iload 3, 23) := by decide +kernel
theorem z67_23 : jcd 67 23 = some (.iconst 0, 24) := by decide +kernel
theorem z67_24 : jcd 67 24 = some (.bipush 50, 26) := by decide +kernel
theorem z67_26 : jcd 67 26 = some (.invokestatic 78, 29) := by decide +kernel
theorem z67_29 : jcd 67 29 = some (.ifCond .ne 36, 32) := by decide +kernel
theorem z67_32 : jcd 67 32 = some (.iconst 1, 33) := by decide +kernel
theorem z67_33 : jcd 67 33 = some (.goto 37, 36) := by decide +kernel
theorem z67_36 : jcd 67 36 = some (.iconst 0, 37) := by decide +kernel
theorem z67_37 : jcd 67 37 = some (.aload 0, 38) := by decide +kernel
theorem z67_38 : jcd 67 38 = some (.getfield 75, 41) := by decide +kernel
theorem z67_41 : jcd 67 41 = some (.bipush 16, 43) := by decide +kernel
theorem z67_43 : jcd 67 43 = some (.if_icmp .ne 50, 46) := by decide +kernel
theorem z67_46 : jcd 67 46 = some (.iconst 1, 47) := by decide +kernel
theorem z67_47 : jcd 67 47 = some (.goto 51, 50) := by decide +kernel
theorem z67_50 : jcd 67 50 = some (.iconst 0, 51) := by decide +kernel
theorem z67_51 : jcd 67 51 = some (.iconst 0, 52) := by decide +kernel
theorem z67_52 : jcd 67 52 = some (.iconst 0, 53) := by decide +kernel
theorem z67_53 : jcd 67 53 = some (.invokevirtual 86, 56) := by decide +kernel
theorem z67_56 : jcd 67 56 = some (.ifCond .eq 61, 59) := by decide +kernel
theorem z67_59 : jcd 67 59 = some (.iconst 0, 60) := by decide +kernel
theorem z67_60 : jcd 67 60 = some (.ireturn, 61) := by decide +kernel
theorem z67_61 : jcd 67 61 = some (.aload 0, 62) := by decide +kernel
theorem z67_62 : jcd 67 62 = some (.getfield 13, 65) := by decide +kernel
theorem z67_65 : jcd 67 65 = some (.aload 0, 66) := by decide +kernel
theorem z67_66 : jcd 67 66 = some (.getfield 75, 69) := by decide +kernel
theorem z67_69 : jcd 67 69 = some (.iload 1, 70) := by decide +kernel
theorem z67_70 : jcd 67 70 = some (.iastore, 71) := by decide +kernel
theorem z67_71 : jcd 67 71 = some (.aload 0, 72) := by decide +kernel
theorem z67_72 : jcd 67 72 = some (.getfield 17, 75) := by decide +kernel
theorem z67_75 : jcd 67 75 = some (.aload 0, 76) := by decide +kernel
theorem z67_76 : jcd 67 76 = some (.getfield 75, 79) := by decide +kernel
theorem z67_79 : jcd 67 79 = some (.iload 2, 80) := by decide +kernel
theorem z67_80 : jcd 67 80 = some (.iastore, 81) := by decide +kernel
theorem z67_81 : jcd 67 81 = some (.aload 0, 82) := by decide +kernel
theorem z67_82 : jcd 67 82 = some (.getfield 20, 85) := by decide +kernel
theorem z67_85 : jcd 67 85 = some (.aload 0, 86) := by decide +kernel
theorem z67_86 : jcd 67 86 = some (.getfield 75, 89) := by decide +kernel
theorem z67_89 : jcd 67 89 = some (.iload 3, 90) := by decide +kernel
theorem z67_90 : jcd 67 90 = some (.iastore, 91) := by decide +kernel
theorem z67_91 : jcd 67 91 = some (.aload 0, 92) := by decide +kernel
theorem z67_92 : jcd 67 92 = some (.getfield 23, 95) := by decide +kernel
theorem z67_95 : jcd 67 95 = some (.aload 0, 96) := by decide +kernel
theorem z67_96 : jcd 67 96 = some (.getfield 75, 99) := by decide +kernel
theorem z67_99 : jcd 67 99 = some (.iconst 3, 100) := by decide +kernel
theorem z67_100 : jcd 67 100 = some (.iastore, 101) := by decide +kernel
theorem z67_101 : jcd 67 101 = some (.aload 0, 102) := by decide +kernel
theorem z67_102 : jcd 67 102 = some (.dup, 103) := by decide +kernel
theorem z67_103 : jcd 67 103 = some (.getfield 75, 106) := by decide +kernel
theorem z67_106 : jcd 67 106 = some (.iconst 1, 107) := by decide +kernel
theorem z67_107 : jcd 67 107 = some (.iadd, 108) := by decide +kernel
theorem z67_108 : jcd 67 108 = some (.putfield 75, 111) := by decide +kernel
theorem z67_111 : jcd 67 111 = some (.aload 0, 112) := by decide +kernel
theorem z67_112 : jcd 67 112 = some (.getfield 75, 115) := by decide +kernel
theorem z67_115 : jcd 67 115 = some (.iconst 1, 116) := by decide +kernel
theorem z67_116 : jcd 67 116 = some (.isub, 117) := by decide +kernel
theorem z67_117 : jcd 67 117 = some (.ireturn, 118) := by decide +kernel
theorem z68_0 : jcd 68 0 = some (.iconst 1, 1) := by decide +kernel
theorem z68_1 : jcd 68 1 = some (.iload 1, 2) := by decide +kernel
theorem z68_2 : jcd 68 2 = some (.ishl, 3) := by decide +kernel
theorem z68_3 : jcd 68 3 = some (.istore 3, 4) := by decide +kernel
theorem z68_4 : jcd 68 4 = some (.iconst 1, 5) := by decide +kernel
theorem z68_5 : jcd 68 5 = some (.istore 4, 7) := by decide +kernel
theorem z68_7 : jcd 68 7 = some (.iload 4, 9) := by decide +kernel
theorem z68_9 : jcd 68 9 = some (.ifCond .eq 113, 12) := by decide +kernel
theorem z68_12 : jcd 68 12 = some (.iconst 0, 13) := by decide +kernel
theorem z68_13 : jcd 68 13 = some (.istore 4, 15) := by decide +kernel
theorem z68_15 : jcd 68 15 = some (.iconst 0, 16) := by decide +kernel
theorem z68_16 : jcd 68 16 = some (.istore 5, 18) := by decide +kernel
theorem z68_18 : jcd 68 18 = some (.iload 5, 20) := by decide +kernel
theorem z68_20 : jcd 68 20 = some (.sipush 256, 23) := by decide +kernel
theorem z68_23 : jcd 68 23 = some (.if_icmp .ge 110, 26) := by decide +kernel
theorem z68_26 : jcd 68 26 = some (.aload 0, 27) := by decide +kernel
theorem z68_27 : jcd 68 27 = some (.getfield 26, 30) := by decide +kernel
theorem z68_30 : jcd 68 30 = some (.iload 5, 32) := by decide +kernel
theorem z68_32 : jcd 68 32 = some (.baload, 33) := by decide +kernel
theorem z68_33 : jcd 68 33 = some (.ifCond .eq 65, 36) := by decide +kernel
theorem z68_36 : jcd 68 36 = some (.iload 3, 37) := by decide +kernel
theorem z68_37 : jcd 68 37 = some (.iload 5, 39) := by decide +kernel
theorem z68_39 : jcd 68 39 = some (.bipush 16, 41) := by decide +kernel
theorem z68_41 : jcd 68 41 = some (.idiv, 42) := by decide +kernel
theorem z68_42 : jcd 68 42 = some (.ishr, 43) := by decide +kernel
theorem z68_43 : jcd 68 43 = some (.iconst 1, 44) := by decide +kernel
theorem z68_44 : jcd 68 44 = some (.iand, 45) := by decide +kernel
theorem z68_45 : jcd 68 45 = some (.iconst 1, 46) := by decide +kernel
theorem z68_46 : jcd 68 46 = some (.if_icmp .ne 65, 49) := by decide +kernel
theorem z68_49 : jcd 68 49 = some (.iload 3, 50) := by decide +kernel
theorem z68_50 : jcd 68 50 = some (.iload 5, 52) := by decide +kernel
theorem z68_52 : jcd 68 52 = some (.bipush 16, 54) := by decide +kernel
theorem z68_54 : jcd 68 54 = some (.irem, 55) := by decide +kernel
theorem z68_55 : jcd 68 55 = some (.ishr, 56) := by decide +kernel
theorem z68_56 : jcd 68 56 = some (.iconst 1, 57) := by decide +kernel
theorem z68_57 : jcd 68 57 = some (.iand, 58) := by decide +kernel
theorem z68_58 : jcd 68 58 = some (.ifCond .ne 65, 61) := by decide +kernel
theorem z68_61 : jcd 68 61 = some (.iconst 1, 62) := by decide +kernel
theorem z68_62 : jcd 68 62 = some (.goto 66, 65) := by decide +kernel
theorem z68_65 : jcd 68 65 = some (.iconst 0, 66) := by decide +kernel
theorem z68_66 : jcd 68 66 = some (.istore 6, 68) := by decide +kernel
theorem z68_68 : jcd 68 68 = some (.iload 3, 69) := by decide +kernel
theorem z68_69 : jcd 68 69 = some (.iload 6, 71) := by decide +kernel
theorem z68_71 : jcd 68 71 = some (.ifCond .eq 84, 74) := by decide +kernel
theorem z68_74 : jcd 68 74 = some (.iconst 1, 75) := by decide +kernel
theorem z68_75 : jcd 68 75 = some (.iload 5, 77) := by decide +kernel
theorem z68_77 : jcd 68 77 = some (.bipush 16, 79) := by decide +kernel
theorem z68_79 : jcd 68 79 = some (.irem, 80) := by decide +kernel
theorem z68_80 : jcd 68 80 = some (.ishl, 81) := by decide +kernel
theorem z68_81 : jcd 68 81 = some (.goto 85, 84) := by decide +kernel
theorem z68_84 : jcd 68 84 = some (.iconst 0, 85) := by decide +kernel
theorem z68_85 : jcd 68 85 = some (.ior, 86) := by decide +kernel
theorem z68_86 : jcd 68 86 = some (.istore 3, 87) := by decide +kernel
theorem z68_87 : jcd 68 87 = some (.iload 4, 89) := by decide +kernel
theorem z68_89 : jcd 68 89 = some (.ifCond .ne 97, 92) := by decide +kernel
theorem z68_92 : jcd 68 92 = some (.iload 6, 94) := by decide +kernel
theorem z68_94 : jcd 68 94 = some (.ifCond .eq 101, 97) := by decide +kernel
theorem z68_97 : jcd 68 97 = some (.iconst 1, 98) := by decide +kernel
theorem z68_98 : jcd 68 98 = some (.goto 102, 101) := by decide +kernel
theorem z68_101 : jcd 68 101 = some (.iconst 0, 102) := by decide +kernel
theorem z68_102 : jcd 68 102 = some (.istore 4, 104) := by decide +kernel
theorem z68_104 : jcd 68 104 = some (.iinc 5 1, 107) := by decide +kernel
theorem z68_107 : jcd 68 107 = some (.goto 18, 110) := by decide +kernel
theorem z68_110 : jcd 68 110 = some (.goto 7, 113) := by decide +kernel
theorem z68_113 : jcd 68 113 = some (.iload 3, 114) := by decide +kernel
theorem z68_114 : jcd 68 114 = some (.iload 2, 115) := by decide +kernel
theorem z68_115 : jcd 68 115 = some (.ishr, 116) := by decide +kernel
theorem z68_116 : jcd 68 116 = some (.iconst 1, 117) := by decide +kernel
theorem z68_117 : jcd 68 117 = some (.iand, 118) := by decide +kernel
theorem z68_118 : jcd 68 118 = some (.iconst 1, 119) := by decide +kernel
theorem z68_119 : jcd 68 119 = some (.if_icmp .ne 126, 122) := by decide +kernel
theorem z68_122 : jcd 68 122 = some (.iconst 1, 123) := by decide +kernel
theorem z68_123 : jcd 68 123 = some (.goto 127, 126) := by decide +kernel
theorem z68_126 : jcd 68 126 = some (.iconst 0, 127) := by decide +kernel
theorem z68_127 : jcd 68 127 = some (.ireturn, 128) := by decide +kernel
theorem z69_0 : jcd 69 0 = some (.aload 0, 1) := by decide +kernel
theorem z69_1 : jcd 69 1 = some (.iload 1, 2) := by decide +kernel
theorem z69_2 : jcd 69 2 = some (.invokevirtual 82, 5) := by decide +kernel
theorem z69_5 : jcd 69 5 = some (.ifCond .eq 16, 8) := by decide +kernel
theorem z69_8 : jcd 69 8 = some (.aload 0, 9) := by decide +kernel
theorem z69_9 : jcd 69 9 = some (.iload 2, 10) := by decide +kernel
theorem z69_10 : jcd 69 10 = some (.invokevirtual 82, 13) := by decide +kernel
theorem z69_13 : jcd 69 13 = some (.ifCond .ne 20, 16) := by decide +kernel
theorem z69_16 : jcd 69 16 = some (.iconst 1, 17) := by decide +kernel
theorem z69_17 : jcd 69 17 = some (.goto 21, 20) := by decide +kernel
theorem z69_20 : jcd 69 20 = some (.iconst 0, 21) := by decide +kernel
theorem z69_21 : jcd 69 21 = some (.istore 3, 22) := by decide +kernel
theorem z69_22 : jcd 69 22 = some (.aload 0, 23) := by decide +kernel
theorem z69_23 : jcd 69 23 = some (.iload 3, 24) := by decide +kernel
theorem z69_24 : jcd 69 24 = some (.iload 3, 25) := by decide +kernel
theorem z69_25 : jcd 69 25 = some (.ifCond .ne 55, 28) := by decide +kernel
theorem z69_28 : jcd 69 28 = some (.aload 0, 29) := by decide +kernel
theorem z69_29 : jcd 69 29 = some (.getfield 26, 32) := by decide +kernel
theorem z69_32 : jcd 69 32 = some (.bipush 16, 34) := by decide +kernel
theorem z69_34 : jcd 69 34 = some (.iload 1, 35) := by decide +kernel
theorem z69_35 : jcd 69 35 = some (.imul, 36) := by decide +kernel
theorem z69_36 : jcd 69 36 = some (.iload 2, 37) := by decide +kernel
theorem z69_37 : jcd 69 37 = some (.iadd, 38) := by decide +kernel
theorem z69_38 : jcd 69 38 = some (.baload, 39) := by decide +kernel
theorem z69_39 : jcd 69 39 = some (.ifCond .ne 51, 42) := by decide +kernel
theorem z69_42 : jcd 69 42 = some (.aload 0, 43) := by decide +kernel
theorem z69_43 : jcd 69 43 = some (.iload 2, 44) := by decide +kernel
theorem z69_44 : jcd 69 44 = some (.iload 1, 45) := by decide +kernel
theorem z69_45 : jcd 69 45 = some (.invokevirtual 90, 48) := by decide +kernel
theorem z69_48 : jcd 69 48 = some (.ifCond .eq 55, 51) := by decide +kernel
theorem z69_51 : jcd 69 51 = some (.iconst 1, 52) := by decide +kernel
theorem z69_52 : jcd 69 52 = some (.goto 56, 55) := by decide +kernel
theorem z69_55 : jcd 69 55 = some (.iconst 0, 56) := by decide +kernel
theorem z69_56 : jcd 69 56 = some (.iconst 0, 57) := by decide +kernel
theorem z69_57 : jcd 69 57 = some (.iconst 0, 58) := by decide +kernel
theorem z69_58 : jcd 69 58 = some (.invokevirtual 86, 61) := by decide +kernel
theorem z69_61 : jcd 69 61 = some (.ifCond .eq 65, 64) := by decide +kernel
theorem z69_64 : jcd 69 64 = some (.return_, 65) := by decide +kernel
theorem z69_65 : jcd 69 65 = some (.aload 0, 66) := by decide +kernel
theorem z69_66 : jcd 69 66 = some (.getfield 26, 69) := by decide +kernel
theorem z69_69 : jcd 69 69 = some (.bipush 16, 71) := by decide +kernel
theorem z69_71 : jcd 69 71 = some (.iload 1, 72) := by decide +kernel
theorem z69_72 : jcd 69 72 = some (.imul, 73) := by decide +kernel
theorem z69_73 : jcd 69 73 = some (.iload 2, 74) := by decide +kernel
theorem z69_74 : jcd 69 74 = some (.iadd, 75) := by decide +kernel
theorem z69_75 : jcd 69 75 = some (.iconst 1, 76) := by decide +kernel
theorem z69_76 : jcd 69 76 = some (.bastore, 77) := by decide +kernel
theorem z69_77 : jcd 69 77 = some (.return_, 78) := by decide +kernel
theorem z70_0 : jcd 70 0 = some (.aload 0, 1) := by decide +kernel
theorem z70_1 : jcd 70 1 = some (.iload 1, 2) := by decide +kernel
theorem z70_2 : jcd 70 2 = some (.iconst 0, 3) := by decide +kernel
theorem z70_3 : jcd 70 3 = some (.sipush 1000, 6) := by decide +kernel
theorem z70_6 : jcd 70 6 = some (.invokestatic 78, 9) := by decide +kernel
theorem z70_9 : jcd 70 9 = some (.ifCond .ne 16, 12) := by decide +kernel
theorem z70_12 : jcd 70 12 = some (.iconst 1, 13) := by decide +kernel
theorem z70_13 : jcd 70 13 = some (.goto 17, 16) := by decide +kernel
theorem z70_16 : jcd 70 16 = some (.iconst 0, 17) := by decide +kernel
theorem z70_17 : jcd 70 17 = some (.iconst 0, 18) := by decide +kernel
theorem z70_18 : jcd 70 18 = some (.iconst 0, 19) := by decide +kernel
theorem z70_19 : jcd 70 19 = some (.iconst 0, 20) := by decide +kernel
theorem z70_20 : jcd 70 20 = some (.invokevirtual 86, 23) := by decide +kernel
theorem z70_23 : jcd 70 23 = some (.ifCond .eq 27, 26) := by decide +kernel
theorem z70_26 : jcd 70 26 = some (.return_, 27) := by decide +kernel
theorem z70_27 : jcd 70 27 = some (.aload 0, 28) := by decide +kernel
theorem z70_28 : jcd 70 28 = some (.iload 1, 29) := by decide +kernel
theorem z70_29 : jcd 70 29 = some (.putfield 7, 32) := by decide +kernel
theorem z70_32 : jcd 70 32 = some (.return_, 33) := by decide +kernel
theorem z71_0 : jcd 71 0 = some (.aload 0, 1) := by decide +kernel
theorem z71_1 : jcd 71 1 = some (.iload 1, 2) := by decide +kernel
theorem z71_2 : jcd 71 2 = some (.aload 0, 3) := by decide +kernel
theorem z71_3 : jcd 71 3 = some (.getfield 94, 6) := by decide +kernel
theorem z71_6 : jcd 71 6 = some (.if_icmp .lt 16, 9) := by decide +kernel
theorem z71_9 : jcd 71 9 = some (.iload 1, 10) := by decide +kernel
theorem z71_10 : jcd 71 10 = some (.sipush 9999, 13) := by decide +kernel
theorem z71_13 : jcd 71 13 = some (.if_icmp .le 20, 16) := by decide +kernel
theorem z71_16 : jcd 71 16 = some (.iconst 1, 17) := by decide +kernel
theorem z71_17 : jcd 71 17 = some (.goto 21, 20) := by decide +kernel
theorem z71_20 : jcd 71 20 = some (.iconst 0, 21) := by decide +kernel
theorem z71_21 : jcd 71 21 = some (.iconst 0, 22) := by decide +kernel
theorem z71_22 : jcd 71 22 = some (.iconst 0, 23) := by decide +kernel
theorem z71_23 : jcd 71 23 = some (.iconst 0, 24) := by decide +kernel
theorem z71_24 : jcd 71 24 = some (.invokevirtual 86, 27) := by decide +kernel
theorem z71_27 : jcd 71 27 = some (.ifCond .eq 31, 30) := by decide +kernel
theorem z71_30 : jcd 71 30 = some (.return_, 31) := by decide +kernel
theorem z71_31 : jcd 71 31 = some (.aload 0, 32) := by decide +kernel
theorem z71_32 : jcd 71 32 = some (.iload 1, 33) := by decide +kernel
theorem z71_33 : jcd 71 33 = some (.putfield 94, 36) := by decide +kernel
theorem z71_36 : jcd 71 36 = some (.return_, 37) := by decide +kernel
theorem z72_0 : jcd 72 0 = some (.aload 0, 1) := by decide +kernel
theorem z72_1 : jcd 72 1 = some (.aload 0, 2) := by decide +kernel
theorem z72_2 : jcd 72 2 = some (.iload 1, 3) := by decide +kernel
theorem z72_3 : jcd 72 3 = some (.invokevirtual 82, 6) := by decide +kernel
theorem z72_6 : jcd 72 6 = some (.ifCond .ne 13, 9) := by decide +kernel
theorem z72_9 : jcd 72 9 = some (.iconst 1, 10) := by decide +kernel
theorem z72_10 : jcd 72 10 = some (.goto 14, 13) := by decide +kernel
theorem z72_13 : jcd 72 13 = some (.iconst 0, 14) := by decide +kernel
theorem z72_14 : jcd 72 14 = some (.iload 2, 15) := by decide +kernel
theorem z72_15 : jcd 72 15 = some (.iconst 0, 16) := by decide +kernel
theorem z72_16 : jcd 72 16 = some (.bipush 10, 18) := by decide +kernel
theorem z72_18 : jcd 72 18 = some (.invokestatic 78, 21) := by decide +kernel
theorem z72_21 : jcd 72 21 = some (.ifCond .ne 28, 24) := by decide +kernel
theorem z72_24 : jcd 72 24 = some (.iconst 1, 25) := by decide +kernel
theorem z72_25 : jcd 72 25 = some (.goto 29, 28) := by decide +kernel
theorem z72_28 : jcd 72 28 = some (.iconst 0, 29) := by decide +kernel
theorem z72_29 : jcd 72 29 = some (.iconst 0, 30) := by decide +kernel
theorem z72_30 : jcd 72 30 = some (.iconst 0, 31) := by decide +kernel
theorem z72_31 : jcd 72 31 = some (.invokevirtual 86, 34) := by decide +kernel
theorem z72_34 : jcd 72 34 = some (.ifCond .eq 38, 37) := by decide +kernel
theorem z72_37 : jcd 72 37 = some (.return_, 38) := by decide +kernel
theorem z72_38 : jcd 72 38 = some (.aload 0, 39) := by decide +kernel
theorem z72_39 : jcd 72 39 = some (.getfield 23, 42) := by decide +kernel
theorem z72_42 : jcd 72 42 = some (.iload 1, 43) := by decide +kernel
theorem z72_43 : jcd 72 43 = some (.iload 2, 44) := by decide +kernel
theorem z72_44 : jcd 72 44 = some (.iastore, 45) := by decide +kernel
theorem z72_45 : jcd 72 45 = some (.return_, 46) := by decide +kernel
theorem z73_0 : jcd 73 0 = some (.iconst (-1), 1) := by decide +kernel
theorem z73_1 : jcd 73 1 = some (.istore 4, 3) := by decide +kernel
theorem z73_3 : jcd 73 3 = some (.iconst 0, 4) := by decide +kernel
theorem z73_4 : jcd 73 4 = some (.istore 5, 6) := by decide +kernel
theorem z73_6 : jcd 73 6 = some (.iload 5, 8) := by decide +kernel
theorem z73_8 : jcd 73 8 = some (.aload 0, 9) := by decide +kernel
theorem z73_9 : jcd 73 9 = some (.getfield 97, 12) := by decide +kernel
theorem z73_12 : jcd 73 12 = some (.if_icmp .ge 73, 15) := by decide +kernel
theorem z73_15 : jcd 73 15 = some (.aload 0, 16) := by decide +kernel
theorem z73_16 : jcd 73 16 = some (.getfield 33, 19) := by decide +kernel
theorem z73_19 : jcd 73 19 = some (.iload 5, 21) := by decide +kernel
theorem z73_21 : jcd 73 21 = some (.iaload, 22) := by decide +kernel
theorem z73_22 : jcd 73 22 = some (.iload 1, 23) := by decide +kernel
theorem z73_23 : jcd 73 23 = some (.if_icmp .ne 63, 26) := by decide +kernel
theorem z73_26 : jcd 73 26 = some (.aload 0, 27) := by decide +kernel
theorem z73_27 : jcd 73 27 = some (.getfield 36, 30) := by decide +kernel
theorem z73_30 : jcd 73 30 = some (.iload 5, 32) := by decide +kernel
theorem z73_32 : jcd 73 32 = some (.iaload, 33) := by decide +kernel
theorem z73_33 : jcd 73 33 = some (.iload 2, 34) := by decide +kernel
theorem z73_34 : jcd 73 34 = some (.if_icmp .ne 63, 37) := by decide +kernel
theorem z73_37 : jcd 73 37 = some (.aload 0, 38) := by decide +kernel
theorem z73_38 : jcd 73 38 = some (.getfield 42, 41) := by decide +kernel
theorem z73_41 : jcd 73 41 = some (.iload 5, 43) := by decide +kernel
theorem z73_43 : jcd 73 43 = some (.baload, 44) := by decide +kernel
theorem z73_44 : jcd 73 44 = some (.ifCond .eq 63, 47) := by decide +kernel
theorem z73_47 : jcd 73 47 = some (.aload 0, 48) := by decide +kernel
theorem z73_48 : jcd 73 48 = some (.getfield 39, 51) := by decide +kernel
theorem z73_51 : jcd 73 51 = some (.iload 5, 53) := by decide +kernel
theorem z73_53 : jcd 73 53 = some (.iaload, 54) := by decide +kernel
theorem z73_54 : jcd 73 54 = some (.iload 3, 55) := by decide +kernel
theorem z73_55 : jcd 73 55 = some (.if_icmp .gt 63, 58) := by decide +kernel
theorem z73_58 : jcd 73 58 = some (.iload 5, 60) := by decide +kernel
theorem z73_60 : jcd 73 60 = some (.goto 65, 63) := by decide +kernel
theorem z73_63 : jcd 73 63 = some (.iload 4, 65) := by decide +kernel
theorem z73_65 : jcd 73 65 = some (.istore 4, 67) := by decide +kernel
theorem z73_67 : jcd 73 67 = some (.iinc 5 1, 70) := by decide +kernel
theorem z73_70 : jcd 73 70 = some (.goto 6, 73) := by decide +kernel
theorem z73_73 : jcd 73 73 = some (.iload 4, 75) := by decide +kernel
theorem z73_75 : jcd 73 75 = some (.ireturn, 76) := by decide +kernel
theorem z74_0 : jcd 74 0 = some (.iconst 0, 1) := by decide +kernel
theorem z74_1 : jcd 74 1 = some (.istore 3, 2) := by decide +kernel
theorem z74_2 : jcd 74 2 = some (.iconst 0, 3) := by decide +kernel
theorem z74_3 : jcd 74 3 = some (.istore 4, 5) := by decide +kernel
theorem z74_5 : jcd 74 5 = some (.iload 4, 7) := by decide +kernel
theorem z74_7 : jcd 74 7 = some (.aload 0, 8) := by decide +kernel
theorem z74_8 : jcd 74 8 = some (.getfield 45, 11) := by decide +kernel
theorem z74_11 : jcd 74 11 = some (.iload 1, 12) := by decide +kernel
theorem z74_12 : jcd 74 12 = some (.iaload, 13) := by decide +kernel
theorem z74_13 : jcd 74 13 = some (.if_icmp .ge 46, 16) := by decide +kernel
theorem z74_16 : jcd 74 16 = some (.iload 3, 17) := by decide +kernel
theorem z74_17 : jcd 74 17 = some (.aload 0, 18) := by decide +kernel
theorem z74_18 : jcd 74 18 = some (.getfield 48, 21) := by decide +kernel
theorem z74_21 : jcd 74 21 = some (.bipush 50, 23) := by decide +kernel
theorem z74_23 : jcd 74 23 = some (.iload 1, 24) := by decide +kernel
theorem z74_24 : jcd 74 24 = some (.imul, 25) := by decide +kernel
theorem z74_25 : jcd 74 25 = some (.iload 4, 27) := by decide +kernel
theorem z74_27 : jcd 74 27 = some (.iadd, 28) := by decide +kernel
theorem z74_28 : jcd 74 28 = some (.iaload, 29) := by decide +kernel
theorem z74_29 : jcd 74 29 = some (.iload 2, 30) := by decide +kernel
theorem z74_30 : jcd 74 30 = some (.if_icmp .gt 37, 33) := by decide +kernel
theorem z74_33 : jcd 74 33 = some (.iconst 1, 34) := by decide +kernel
theorem z74_34 : jcd 74 34 = some (.goto 38, 37) := by decide +kernel
theorem z74_37 : jcd 74 37 = some (.iconst 0, 38) := by decide +kernel
theorem z74_38 : jcd 74 38 = some (.iadd, 39) := by decide +kernel
theorem z74_39 : jcd 74 39 = some (.istore 3, 40) := by decide +kernel
theorem z74_40 : jcd 74 40 = some (.iinc 4 1, 43) := by decide +kernel
theorem z74_43 : jcd 74 43 = some (.goto 5, 46) := by decide +kernel
theorem z74_46 : jcd 74 46 = some (.aload 0, 47) := by decide +kernel
theorem z74_47 : jcd 74 47 = some (.getfield 39, 50) := by decide +kernel
theorem z74_50 : jcd 74 50 = some (.iload 1, 51) := by decide +kernel
theorem z74_51 : jcd 74 51 = some (.iaload, 52) := by decide +kernel
theorem z74_52 : jcd 74 52 = some (.aload 0, 53) := by decide +kernel
theorem z74_53 : jcd 74 53 = some (.getfield 13, 56) := by decide +kernel
theorem z74_56 : jcd 74 56 = some (.aload 0, 57) := by decide +kernel
theorem z74_57 : jcd 74 57 = some (.getfield 36, 60) := by decide +kernel
theorem z74_60 : jcd 74 60 = some (.iload 1, 61) := by decide +kernel
theorem z74_61 : jcd 74 61 = some (.iaload, 62) := by decide +kernel
theorem z74_62 : jcd 74 62 = some (.iaload, 63) := by decide +kernel
theorem z74_63 : jcd 74 63 = some (.iadd, 64) := by decide +kernel
theorem z74_64 : jcd 74 64 = some (.iload 3, 65) := by decide +kernel
theorem z74_65 : jcd 74 65 = some (.iadd, 66) := by decide +kernel
theorem z74_66 : jcd 74 66 = some (.ireturn, 67) := by decide +kernel
theorem z75_0 : jcd 75 0 = some (.aload 0, 1) := by decide +kernel
theorem z75_1 : jcd 75 1 = some (.iload 1, 2) := by decide +kernel
theorem z75_2 : jcd 75 2 = some (.iload 2, 3) := by decide +kernel
theorem z75_3 : jcd 75 3 = some (.iload 3, 4) := by decide +kernel
theorem z75_4 : jcd 75 4 = some (.invokevirtual 100, 7) := by decide +kernel
theorem z75_7 : jcd 75 7 = some (.istore 4, 9) := by decide +kernel
theorem z75_9 : jcd 75 9 = some (.iload 4, 11) := by decide +kernel
theorem z75_11 : jcd 75 11 = some (.ifCond .lt 29, 14) := by decide +kernel
theorem z75_14 : jcd 75 14 = some (.iload 3, 15) := by decide +kernel
theorem z75_15 : jcd 75 15 = some (.aload 0, 16) := by decide +kernel
theorem z75_16 : jcd 75 16 = some (.iload 4, 18) := by decide +kernel
theorem z75_18 : jcd 75 18 = some (.iload 3, 19) := by decide +kernel
theorem z75_19 : jcd 75 19 = some (.invokevirtual 104, 22) := by decide +kernel
theorem z75_22 : jcd 75 22 = some (.if_icmp .ge 29, 25) := by decide +kernel
theorem z75_25 : jcd 75 25 = some (.iconst 1, 26) := by decide +kernel
theorem z75_26 : jcd 75 26 = some (.goto 30, 29) := by decide +kernel
theorem z75_29 : jcd 75 29 = some (.iconst 0, 30) := by decide +kernel
theorem z75_30 : jcd 75 30 = some (.ireturn, 31) := by decide +kernel
theorem z76_0 : jcd 76 0 = some (.iconst 0, 1) := by decide +kernel
theorem z76_1 : jcd 76 1 = some (.istore 3, 2) := by decide +kernel
theorem z76_2 : jcd 76 2 = some (.iconst 0, 3) := by decide +kernel
theorem z76_3 : jcd 76 3 = some (.istore 4, 5) := by decide +kernel
theorem z76_5 : jcd 76 5 = some (.iload 4, 7) := by decide +kernel
theorem z76_7 : jcd 76 7 = some (.aload 0, 8) := by decide +kernel
theorem z76_8 : jcd 76 8 = some (.getfield 97, 11) := by decide +kernel
theorem z76_11 : jcd 76 11 = some (.if_icmp .ge 60, 14) := by decide +kernel
theorem z76_14 : jcd 76 14 = some (.aload 0, 15) := by decide +kernel
theorem z76_15 : jcd 76 15 = some (.getfield 33, 18) := by decide +kernel
theorem z76_18 : jcd 76 18 = some (.iload 4, 20) := by decide +kernel
theorem z76_20 : jcd 76 20 = some (.iaload, 21) := by decide +kernel
theorem z76_21 : jcd 76 21 = some (.iload 1, 22) := by decide +kernel
theorem z76_22 : jcd 76 22 = some (.if_icmp .ne 54, 25) := by decide +kernel
theorem z76_25 : jcd 76 25 = some (.aload 0, 26) := by decide +kernel
theorem z76_26 : jcd 76 26 = some (.getfield 36, 29) := by decide +kernel
theorem z76_29 : jcd 76 29 = some (.iload 4, 31) := by decide +kernel
theorem z76_31 : jcd 76 31 = some (.iaload, 32) := by decide +kernel
theorem z76_32 : jcd 76 32 = some (.iload 2, 33) := by decide +kernel
theorem z76_33 : jcd 76 33 = some (.if_icmp .ne 54, 36) := by decide +kernel
theorem z76_36 : jcd 76 36 = some (.aload 0, 37) := by decide +kernel
theorem z76_37 : jcd 76 37 = some (.getfield 42, 40) := by decide +kernel
theorem z76_40 : jcd 76 40 = some (.iload 4, 42) := by decide +kernel
theorem z76_42 : jcd 76 42 = some (.baload, 43) := by decide +kernel
theorem z76_43 : jcd 76 43 = some (.ifCond .eq 50, 46) := by decide +kernel
theorem z76_46 : jcd 76 46 = some (.iconst 0, 47) := by decide +kernel
theorem z76_47 : jcd 76 47 = some (.goto 53, 50) := by decide +kernel
theorem z76_50 : jcd 76 50 = some (.iload 3, 51) := by decide +kernel
theorem z76_51 : jcd 76 51 = some (.iconst 1, 52) := by decide +kernel
theorem z76_52 : jcd 76 52 = some (.iadd, 53) := by decide +kernel
theorem z76_53 : jcd 76 53 = some (.istore 3, 54) := by decide +kernel
theorem z76_54 : jcd 76 54 = some (.iinc 4 1, 57) := by decide +kernel
theorem z76_57 : jcd 76 57 = some (.goto 5, 60) := by decide +kernel
theorem z76_60 : jcd 76 60 = some (.iload 3, 61) := by decide +kernel
theorem z76_61 : jcd 76 61 = some (.ireturn, 62) := by decide +kernel
theorem z77_0 : jcd 77 0 = some (.iconst (-1), 1) := by decide +kernel
theorem z77_1 : jcd 77 1 = some (.istore 3, 2) := by decide +kernel
theorem z77_2 : jcd 77 2 = some (.iconst 0, 3) := by decide +kernel
theorem z77_3 : jcd 77 3 = some (.istore 4, 5) := by decide +kernel
theorem z77_5 : jcd 77 5 = some (.iload 4, 7) := by decide +kernel
theorem z77_7 : jcd 77 7 = some (.aload 0, 8) := by decide +kernel
theorem z77_8 : jcd 77 8 = some (.getfield 97, 11) := by decide +kernel
theorem z77_11 : jcd 77 11 = some (.if_icmp .ge 49, 14) := by decide +kernel
theorem z77_14 : jcd 77 14 = some (.aload 0, 15) := by decide +kernel
theorem z77_15 : jcd 77 15 = some (.getfield 33, 18) := by decide +kernel
theorem z77_18 : jcd 77 18 = some (.iload 4, 20) := by decide +kernel
theorem z77_20 : jcd 77 20 = some (.iaload, 21) := by decide +kernel
theorem z77_21 : jcd 77 21 = some (.iload 1, 22) := by decide +kernel
theorem z77_22 : jcd 77 22 = some (.if_icmp .ne 41, 25) := by decide +kernel
theorem z77_25 : jcd 77 25 = some (.aload 0, 26) := by decide +kernel
theorem z77_26 : jcd 77 26 = some (.getfield 36, 29) := by decide +kernel
theorem z77_29 : jcd 77 29 = some (.iload 4, 31) := by decide +kernel
theorem z77_31 : jcd 77 31 = some (.iaload, 32) := by decide +kernel
theorem z77_32 : jcd 77 32 = some (.iload 2, 33) := by decide +kernel
theorem z77_33 : jcd 77 33 = some (.if_icmp .ne 41, 36) := by decide +kernel
theorem z77_36 : jcd 77 36 = some (.iload 4, 38) := by decide +kernel
theorem z77_38 : jcd 77 38 = some (.goto 42, 41) := by decide +kernel
theorem z77_41 : jcd 77 41 = some (.iload 3, 42) := by decide +kernel
theorem z77_42 : jcd 77 42 = some (.istore 3, 43) := by decide +kernel
theorem z77_43 : jcd 77 43 = some (.iinc 4 1, 46) := by decide +kernel
theorem z77_46 : jcd 77 46 = some (.goto 5, 49) := by decide +kernel
theorem z77_49 : jcd 77 49 = some (.iload 3, 50) := by decide +kernel
theorem z77_50 : jcd 77 50 = some (.ireturn, 51) := by decide +kernel
theorem z78_0 : jcd 78 0 = some (.iconst 0, 1) := by decide +kernel
theorem z78_1 : jcd 78 1 = some (.istore 3, 2) := by decide +kernel
theorem z78_2 : jcd 78 2 = some (.iload 3, 3) := by decide +kernel
theorem z78_3 : jcd 78 3 = some (.aload 0, 4) := by decide +kernel
theorem z78_4 : jcd 78 4 = some (.getfield 75, 7) := by decide +kernel
theorem z78_7 : jcd 78 7 = some (.if_icmp .ge 45, 10) := by decide +kernel
theorem z78_10 : jcd 78 10 = some (.aload 0, 11) := by decide +kernel
theorem z78_11 : jcd 78 11 = some (.getfield 26, 14) := by decide +kernel
theorem z78_14 : jcd 78 14 = some (.bipush 16, 16) := by decide +kernel
theorem z78_16 : jcd 78 16 = some (.iload 2, 17) := by decide +kernel
theorem z78_17 : jcd 78 17 = some (.imul, 18) := by decide +kernel
theorem z78_18 : jcd 78 18 = some (.iload 3, 19) := by decide +kernel
theorem z78_19 : jcd 78 19 = some (.iadd, 20) := by decide +kernel
theorem z78_20 : jcd 78 20 = some (.baload, 21) := by decide +kernel
theorem z78_21 : jcd 78 21 = some (.ifCond .eq 39, 24) := by decide +kernel
theorem z78_24 : jcd 78 24 = some (.aload 0, 25) := by decide +kernel
theorem z78_25 : jcd 78 25 = some (.iload 1, 26) := by decide +kernel
theorem z78_26 : jcd 78 26 = some (.iload 3, 27) := by decide +kernel
theorem z78_27 : jcd 78 27 = some (.aload 0, 28) := by decide +kernel
theorem z78_28 : jcd 78 28 = some (.getfield 94, 31) := by decide +kernel
theorem z78_31 : jcd 78 31 = some (.invokevirtual 108, 34) := by decide +kernel
theorem z78_34 : jcd 78 34 = some (.ifCond .ne 39, 37) := by decide +kernel
theorem z78_37 : jcd 78 37 = some (.iconst 1, 38) := by decide +kernel
theorem z78_38 : jcd 78 38 = some (.ireturn, 39) := by decide +kernel
theorem z78_39 : jcd 78 39 = some (.iinc 3 1, 42) := by decide +kernel
theorem z78_42 : jcd 78 42 = some (.goto 2, 45) := by decide +kernel
theorem z78_45 : jcd 78 45 = some (.aload 0, 46) := by decide +kernel
theorem z78_46 : jcd 78 46 = some (.getfield 30, 49) := by decide +kernel
theorem z78_49 : jcd 78 49 = some (.bipush 16, 51) := by decide +kernel
theorem z78_51 : jcd 78 51 = some (.iload 1, 52) := by decide +kernel
theorem z78_52 : jcd 78 52 = some (.imul, 53) := by decide +kernel
theorem z78_53 : jcd 78 53 = some (.iload 2, 54) := by decide +kernel
theorem z78_54 : jcd 78 54 = some (.iadd, 55) := by decide +kernel
theorem z78_55 : jcd 78 55 = some (.baload, 56) := by decide +kernel
theorem z78_56 : jcd 78 56 = some (.ifCond .eq 61, 59) := by decide +kernel
theorem z78_59 : jcd 78 59 = some (.iconst 2, 60) := by decide +kernel
theorem z78_60 : jcd 78 60 = some (.ireturn, 61) := by decide +kernel
theorem z78_61 : jcd 78 61 = some (.aload 0, 62) := by decide +kernel
theorem z78_62 : jcd 78 62 = some (.iload 1, 63) := by decide +kernel
theorem z78_63 : jcd 78 63 = some (.iload 2, 64) := by decide +kernel
theorem z78_64 : jcd 78 64 = some (.invokevirtual 111, 67) := by decide +kernel
theorem z78_67 : jcd 78 67 = some (.iconst 3, 68) := by decide +kernel
theorem z78_68 : jcd 78 68 = some (.if_icmp .lt 98, 71) := by decide +kernel
theorem z78_71 : jcd 78 71 = some (.aload 0, 72) := by decide +kernel
theorem z78_72 : jcd 78 72 = some (.getfield 94, 75) := by decide +kernel
theorem z78_75 : jcd 78 75 = some (.aload 0, 76) := by decide +kernel
theorem z78_76 : jcd 78 76 = some (.getfield 39, 79) := by decide +kernel
theorem z78_79 : jcd 78 79 = some (.aload 0, 80) := by decide +kernel
theorem z78_80 : jcd 78 80 = some (.iload 1, 81) := by decide +kernel
theorem z78_81 : jcd 78 81 = some (.iload 2, 82) := by decide +kernel
theorem z78_82 : jcd 78 82 = some (.invokevirtual 114, 85) := by decide +kernel
theorem z78_85 : jcd 78 85 = some (.iaload, 86) := by decide +kernel
theorem z78_86 : jcd 78 86 = some (.isub, 87) := by decide +kernel
theorem z78_87 : jcd 78 87 = some (.aload 0, 88) := by decide +kernel
theorem z78_88 : jcd 78 88 = some (.getfield 7, 91) := by decide +kernel
theorem z78_91 : jcd 78 91 = some (.if_icmp .ge 98, 94) := by decide +kernel
theorem z78_94 : jcd 78 94 = some (.iconst 3, 95) := by decide +kernel
theorem z78_95 : jcd 78 95 = some (.goto 99, 98) := by decide +kernel
theorem z78_98 : jcd 78 98 = some (.iconst 0, 99) := by decide +kernel
theorem z78_99 : jcd 78 99 = some (.ireturn, 100) := by decide +kernel
theorem z79_0 : jcd 79 0 = some (.aload 0, 1) := by decide +kernel
theorem z79_1 : jcd 79 1 = some (.getfield 30, 4) := by decide +kernel
theorem z79_4 : jcd 79 4 = some (.bipush 16, 6) := by decide +kernel
theorem z79_6 : jcd 79 6 = some (.iload 1, 7) := by decide +kernel
theorem z79_7 : jcd 79 7 = some (.imul, 8) := by decide +kernel
theorem z79_8 : jcd 79 8 = some (.iload 2, 9) := by decide +kernel
theorem z79_9 : jcd 79 9 = some (.iadd, 10) := by decide +kernel
theorem z79_10 : jcd 79 10 = some (.baload, 11) := by decide +kernel
theorem z79_11 : jcd 79 11 = some (.ifCond .eq 31, 14) := by decide +kernel
theorem z79_14 : jcd 79 14 = some (.aload 0, 15) := by decide +kernel
theorem z79_15 : jcd 79 15 = some (.iload 1, 16) := by decide +kernel
theorem z79_16 : jcd 79 16 = some (.iload 2, 17) := by decide +kernel
theorem z79_17 : jcd 79 17 = some (.aload 0, 18) := by decide +kernel
theorem z79_18 : jcd 79 18 = some (.getfield 94, 21) := by decide +kernel
theorem z79_21 : jcd 79 21 = some (.invokevirtual 108, 24) := by decide +kernel
theorem z79_24 : jcd 79 24 = some (.ifCond .eq 31, 27) := by decide +kernel
theorem z79_27 : jcd 79 27 = some (.iconst 1, 28) := by decide +kernel
theorem z79_28 : jcd 79 28 = some (.goto 32, 31) := by decide +kernel
theorem z79_31 : jcd 79 31 = some (.iconst 0, 32) := by decide +kernel
theorem z79_32 : jcd 79 32 = some (.ireturn, 33) := by decide +kernel
theorem z80_0 : jcd 80 0 = some (.iconst 0, 1) := by decide +kernel
theorem z80_1 : jcd 80 1 = some (.istore 2, 2) := by decide +kernel
theorem z80_2 : jcd 80 2 = some (.iconst 0, 3) := by decide +kernel
theorem z80_3 : jcd 80 3 = some (.istore 3, 4) := by decide +kernel
theorem z80_4 : jcd 80 4 = some (.iload 3, 5) := by decide +kernel
theorem z80_5 : jcd 80 5 = some (.bipush 20, 7) := by decide +kernel
theorem z80_7 : jcd 80 7 = some (.if_icmp .ge 38, 10) := by decide +kernel
theorem z80_10 : jcd 80 10 = some (.iload 2, 11) := by decide +kernel
theorem z80_11 : jcd 80 11 = some (.aload 0, 12) := by decide +kernel
theorem z80_12 : jcd 80 12 = some (.iload 3, 13) := by decide +kernel
theorem z80_13 : jcd 80 13 = some (.iload 1, 14) := by decide +kernel
theorem z80_14 : jcd 80 14 = some (.invokevirtual 117, 17) := by decide +kernel
theorem z80_17 : jcd 80 17 = some (.ifCond .eq 29, 20) := by decide +kernel
theorem z80_20 : jcd 80 20 = some (.aload 0, 21) := by decide +kernel
theorem z80_21 : jcd 80 21 = some (.getfield 23, 24) := by decide +kernel
theorem z80_24 : jcd 80 24 = some (.iload 1, 25) := by decide +kernel
theorem z80_25 : jcd 80 25 = some (.iaload, 26) := by decide +kernel
theorem z80_26 : jcd 80 26 = some (.goto 30, 29) := by decide +kernel
theorem z80_29 : jcd 80 29 = some (.iconst 0, 30) := by decide +kernel
theorem z80_30 : jcd 80 30 = some (.iadd, 31) := by decide +kernel
theorem z80_31 : jcd 80 31 = some (.istore 2, 32) := by decide +kernel
theorem z80_32 : jcd 80 32 = some (.iinc 3 1, 35) := by decide +kernel
theorem z80_35 : jcd 80 35 = some (.goto 4, 38) := by decide +kernel
theorem z80_38 : jcd 80 38 = some (.iconst 0, 39) := by decide +kernel
theorem z80_39 : jcd 80 39 = some (.istore 3, 40) := by decide +kernel
theorem z80_40 : jcd 80 40 = some (.iload 3, 41) := by decide +kernel
theorem z80_41 : jcd 80 41 = some (.aload 0, 42) := by decide +kernel
theorem z80_42 : jcd 80 42 = some (.getfield 97, 45) := by decide +kernel
theorem z80_45 : jcd 80 45 = some (.if_icmp .ge 85, 48) := by decide +kernel
theorem z80_48 : jcd 80 48 = some (.iload 2, 49) := by decide +kernel
theorem z80_49 : jcd 80 49 = some (.aload 0, 50) := by decide +kernel
theorem z80_50 : jcd 80 50 = some (.getfield 36, 53) := by decide +kernel
theorem z80_53 : jcd 80 53 = some (.iload 3, 54) := by decide +kernel
theorem z80_54 : jcd 80 54 = some (.iaload, 55) := by decide +kernel
theorem z80_55 : jcd 80 55 = some (.iload 1, 56) := by decide +kernel
theorem z80_56 : jcd 80 56 = some (.if_icmp .ne 76, 59) := by decide +kernel
theorem z80_59 : jcd 80 59 = some (.aload 0, 60) := by decide +kernel
theorem z80_60 : jcd 80 60 = some (.getfield 39, 63) := by decide +kernel
theorem z80_63 : jcd 80 63 = some (.iload 3, 64) := by decide +kernel
theorem z80_64 : jcd 80 64 = some (.iaload, 65) := by decide +kernel
theorem z80_65 : jcd 80 65 = some (.aload 0, 66) := by decide +kernel
theorem z80_66 : jcd 80 66 = some (.getfield 94, 69) := by decide +kernel
theorem z80_69 : jcd 80 69 = some (.if_icmp .ne 76, 72) := by decide +kernel
theorem z80_72 : jcd 80 72 = some (.iconst 1, 73) := by decide +kernel
theorem z80_73 : jcd 80 73 = some (.goto 77, 76) := by decide +kernel
theorem z80_76 : jcd 80 76 = some (.iconst 0, 77) := by decide +kernel
theorem z80_77 : jcd 80 77 = some (.isub, 78) := by decide +kernel
theorem z80_78 : jcd 80 78 = some (.istore 2, 79) := by decide +kernel
theorem z80_79 : jcd 80 79 = some (.iinc 3 1, 82) := by decide +kernel
theorem z80_82 : jcd 80 82 = some (.goto 40, 85) := by decide +kernel
theorem z80_85 : jcd 80 85 = some (.iload 2, 86) := by decide +kernel
theorem z80_86 : jcd 80 86 = some (.ifCond .ge 93, 89) := by decide +kernel
theorem z80_89 : jcd 80 89 = some (.iconst 0, 90) := by decide +kernel
theorem z80_90 : jcd 80 90 = some (.goto 94, 93) := by decide +kernel
theorem z80_93 : jcd 80 93 = some (.iload 2, 94) := by decide +kernel
theorem z80_94 : jcd 80 94 = some (.ireturn, 95) := by decide +kernel
theorem z81_0 : jcd 81 0 = some (.aload 0, 1) := by decide +kernel
theorem z81_1 : jcd 81 1 = some (.getfield 33, 4) := by decide +kernel
theorem z81_4 : jcd 81 4 = some (.aload 0, 5) := by decide +kernel
theorem z81_5 : jcd 81 5 = some (.getfield 97, 8) := by decide +kernel
theorem z81_8 : jcd 81 8 = some (.iload 1, 9) := by decide +kernel
theorem z81_9 : jcd 81 9 = some (.iastore, 10) := by decide +kernel
theorem z81_10 : jcd 81 10 = some (.aload 0, 11) := by decide +kernel
theorem z81_11 : jcd 81 11 = some (.getfield 36, 14) := by decide +kernel
theorem z81_14 : jcd 81 14 = some (.aload 0, 15) := by decide +kernel
theorem z81_15 : jcd 81 15 = some (.getfield 97, 18) := by decide +kernel
theorem z81_18 : jcd 81 18 = some (.iload 2, 19) := by decide +kernel
theorem z81_19 : jcd 81 19 = some (.iastore, 20) := by decide +kernel
theorem z81_20 : jcd 81 20 = some (.aload 0, 21) := by decide +kernel
theorem z81_21 : jcd 81 21 = some (.getfield 39, 24) := by decide +kernel
theorem z81_24 : jcd 81 24 = some (.aload 0, 25) := by decide +kernel
theorem z81_25 : jcd 81 25 = some (.getfield 97, 28) := by decide +kernel
theorem z81_28 : jcd 81 28 = some (.aload 0, 29) := by decide +kernel
theorem z81_29 : jcd 81 29 = some (.getfield 94, 32) := by decide +kernel
theorem z81_32 : jcd 81 32 = some (.iastore, 33) := by decide +kernel
theorem z81_33 : jcd 81 33 = some (.aload 0, 34) := by decide +kernel
theorem z81_34 : jcd 81 34 = some (.getfield 42, 37) := by decide +kernel
theorem z81_37 : jcd 81 37 = some (.aload 0, 38) := by decide +kernel
theorem z81_38 : jcd 81 38 = some (.getfield 97, 41) := by decide +kernel
theorem z81_41 : jcd 81 41 = some (.iload 3, 42) := by decide +kernel
theorem z81_42 : jcd 81 42 = some (.bastore, 43) := by decide +kernel
theorem z81_43 : jcd 81 43 = some (.aload 0, 44) := by decide +kernel
theorem z81_44 : jcd 81 44 = some (.dup, 45) := by decide +kernel
theorem z81_45 : jcd 81 45 = some (.getfield 97, 48) := by decide +kernel
theorem z81_48 : jcd 81 48 = some (.iconst 1, 49) := by decide +kernel
theorem z81_49 : jcd 81 49 = some (.iadd, 50) := by decide +kernel
theorem z81_50 : jcd 81 50 = some (.putfield 97, 53) := by decide +kernel
theorem z81_53 : jcd 81 53 = some (.aload 0, 54) := by decide +kernel
theorem z81_54 : jcd 81 54 = some (.getfield 97, 57) := by decide +kernel
theorem z81_57 : jcd 81 57 = some (.iconst 1, 58) := by decide +kernel
theorem z81_58 : jcd 81 58 = some (.isub, 59) := by decide +kernel
theorem z81_59 : jcd 81 59 = some (.ireturn, 60) := by decide +kernel
theorem z82_0 : jcd 82 0 = some (.aload 0, 1) := by decide +kernel
theorem z82_1 : jcd 82 1 = some (.iload 1, 2) := by decide +kernel
theorem z82_2 : jcd 82 2 = some (.iload 2, 3) := by decide +kernel
theorem z82_3 : jcd 82 3 = some (.invokevirtual 120, 6) := by decide +kernel
theorem z82_6 : jcd 82 6 = some (.ifCond .ne 13, 9) := by decide +kernel
theorem z82_9 : jcd 82 9 = some (.iconst 1, 10) := by decide +kernel
theorem z82_10 : jcd 82 10 = some (.goto 14, 13) := by decide +kernel
theorem z82_13 : jcd 82 13 = some (.iconst 0, 14) := by decide +kernel
theorem z82_14 : jcd 82 14 = some (.istore 4, 16) := by decide +kernel
theorem z82_16 : jcd 82 16 = some (.iload 3, 17) := by decide +kernel
theorem z82_17 : jcd 82 17 = some (.iconst 0, 18) := by decide +kernel
theorem z82_18 : jcd 82 18 = some (.bipush 100, 20) := by decide +kernel
theorem z82_20 : jcd 82 20 = some (.invokestatic 78, 23) := by decide +kernel
theorem z82_23 : jcd 82 23 = some (.ifCond .ne 30, 26) := by decide +kernel
theorem z82_26 : jcd 82 26 = some (.iconst 1, 27) := by decide +kernel
theorem z82_27 : jcd 82 27 = some (.goto 31, 30) := by decide +kernel
theorem z82_30 : jcd 82 30 = some (.iconst 0, 31) := by decide +kernel
theorem z82_31 : jcd 82 31 = some (.istore 5, 33) := by decide +kernel
theorem z82_33 : jcd 82 33 = some (.aload 0, 34) := by decide +kernel
theorem z82_34 : jcd 82 34 = some (.iload 4, 36) := by decide +kernel
theorem z82_36 : jcd 82 36 = some (.iload 5, 38) := by decide +kernel
theorem z82_38 : jcd 82 38 = some (.iload 4, 40) := by decide +kernel
theorem z82_40 : jcd 82 40 = some (.ifCond .ne 56, 43) := by decide +kernel
theorem z82_43 : jcd 82 43 = some (.aload 0, 44) := by decide +kernel
theorem z82_44 : jcd 82 44 = some (.iload 1, 45) := by decide +kernel
theorem z82_45 : jcd 82 45 = some (.iload 2, 46) := by decide +kernel
theorem z82_46 : jcd 82 46 = some (.invokevirtual 123, 49) := by decide +kernel
theorem z82_49 : jcd 82 49 = some (.ifCond .le 56, 52) := by decide +kernel
theorem z82_52 : jcd 82 52 = some (.iconst 1, 53) := by decide +kernel
theorem z82_53 : jcd 82 53 = some (.goto 57, 56) := by decide +kernel
theorem z82_56 : jcd 82 56 = some (.iconst 0, 57) := by decide +kernel
theorem z82_57 : jcd 82 57 = some (.iload 4, 59) := by decide +kernel
theorem z82_59 : jcd 82 59 = some (.ifCond .ne 70, 62) := by decide +kernel
theorem z82_62 : jcd 82 62 = some (.aload 0, 63) := by decide +kernel
theorem z82_63 : jcd 82 63 = some (.iload 2, 64) := by decide +kernel
theorem z82_64 : jcd 82 64 = some (.invokevirtual 126, 67) := by decide +kernel
theorem z82_67 : jcd 82 67 = some (.ifCond .eq 80, 70) := by decide +kernel
theorem z82_70 : jcd 82 70 = some (.aload 0, 71) := by decide +kernel
theorem z82_71 : jcd 82 71 = some (.getfield 97, 74) := by decide +kernel
theorem z82_74 : jcd 82 74 = some (.sipush 300, 77) := by decide +kernel
theorem z82_77 : jcd 82 77 = some (.if_icmp .ne 84, 80) := by decide +kernel
theorem z82_80 : jcd 82 80 = some (.iconst 1, 81) := by decide +kernel
theorem z82_81 : jcd 82 81 = some (.goto 85, 84) := by decide +kernel
theorem z82_84 : jcd 82 84 = some (.iconst 0, 85) := by decide +kernel
theorem z82_85 : jcd 82 85 = some (.invokevirtual 86, 88) := by decide +kernel
theorem z82_88 : jcd 82 88 = some (.ifCond .eq 93, 91) := by decide +kernel
theorem z82_91 : jcd 82 91 = some (.iconst 0, 92) := by decide +kernel
theorem z82_92 : jcd 82 92 = some (.ireturn, 93) := by decide +kernel
theorem z82_93 : jcd 82 93 = some (.aload 0, 94) := by decide +kernel
theorem z82_94 : jcd 82 94 = some (.iload 1, 95) := by decide +kernel
theorem z82_95 : jcd 82 95 = some (.iload 2, 96) := by decide +kernel
theorem z82_96 : jcd 82 96 = some (.iload 3, 97) := by decide +kernel
theorem z82_97 : jcd 82 97 = some (.aload 0, 98) := by decide +kernel
theorem z82_98 : jcd 82 98 = some (.getfield 17, 101) := by decide +kernel
theorem z82_101 : jcd 82 101 = some (.iload 2, 102) := by decide +kernel
theorem z82_102 : jcd 82 102 = some (.iaload, 103) := by decide +kernel
theorem z82_103 : jcd 82 103 = some (.if_icmp .lt 110, 106) := by decide +kernel
theorem z82_106 : jcd 82 106 = some (.iconst 1, 107) := by decide +kernel
theorem z82_107 : jcd 82 107 = some (.goto 111, 110) := by decide +kernel
theorem z82_110 : jcd 82 110 = some (.iconst 0, 111) := by decide +kernel
theorem z82_111 : jcd 82 111 = some (.invokevirtual 130, 114) := by decide +kernel
theorem z82_114 : jcd 82 114 = some (.ireturn, 115) := by decide +kernel
theorem z83_0 : jcd 83 0 = some (.aload 0, 1) := by decide +kernel
theorem z83_1 : jcd 83 1 = some (.iload 1, 2) := by decide +kernel
theorem z83_2 : jcd 83 2 = some (.iload 2, 3) := by decide +kernel
theorem z83_3 : jcd 83 3 = some (.invokevirtual 120, 6) := by decide +kernel
theorem z83_6 : jcd 83 6 = some (.ifCond .ne 13, 9) := by decide +kernel
theorem z83_9 : jcd 83 9 = some (.iconst 1, 10) := by decide +kernel
theorem z83_10 : jcd 83 10 = some (.goto 14, 13) := by decide +kernel
theorem z83_13 : jcd 83 13 = some (.iconst 0, 14) := by decide +kernel
theorem z83_14 : jcd 83 14 = some (.istore 3, 15) := by decide +kernel
theorem z83_15 : jcd 83 15 = some (.iconst 0, 16) := by decide +kernel
theorem z83_16 : jcd 83 16 = some (.istore 4, 18) := by decide +kernel
theorem z83_18 : jcd 83 18 = some (.iconst 0, 19) := by decide +kernel
theorem z83_19 : jcd 83 19 = some (.istore 5, 21) := by decide +kernel
theorem z83_21 : jcd 83 21 = some (.iload 5, 23) := by decide +kernel
theorem z83_23 : jcd 83 23 = some (.aload 0, 24) := by decide +kernel
theorem z83_24 : jcd 83 24 = some (.getfield 97, 27) := by decide +kernel
theorem z83_27 : jcd 83 27 = some (.if_icmp .ge 59, 30) := by decide +kernel
theorem z83_30 : jcd 83 30 = some (.iload 4, 32) := by decide +kernel
theorem z83_32 : jcd 83 32 = some (.ifCond .ne 46, 35) := by decide +kernel
theorem z83_35 : jcd 83 35 = some (.aload 0, 36) := by decide +kernel
theorem z83_36 : jcd 83 36 = some (.getfield 36, 39) := by decide +kernel
theorem z83_39 : jcd 83 39 = some (.iload 5, 41) := by decide +kernel
theorem z83_41 : jcd 83 41 = some (.iaload, 42) := by decide +kernel
theorem z83_42 : jcd 83 42 = some (.iload 2, 43) := by decide +kernel
theorem z83_43 : jcd 83 43 = some (.if_icmp .ne 50, 46) := by decide +kernel
theorem z83_46 : jcd 83 46 = some (.iconst 1, 47) := by decide +kernel
theorem z83_47 : jcd 83 47 = some (.goto 51, 50) := by decide +kernel
theorem z83_50 : jcd 83 50 = some (.iconst 0, 51) := by decide +kernel
theorem z83_51 : jcd 83 51 = some (.istore 4, 53) := by decide +kernel
theorem z83_53 : jcd 83 53 = some (.iinc 5 1, 56) := by decide +kernel
theorem z83_56 : jcd 83 56 = some (.goto 21, 59) := by decide +kernel
theorem z83_59 : jcd 83 59 = some (.aload 0, 60) := by decide +kernel
theorem z83_60 : jcd 83 60 = some (.iload 3, 61) := by decide +kernel
theorem z83_61 : jcd 83 61 = some (.iload 4, 63) := by decide +kernel
theorem z83_63 : jcd 83 63 = some (.aload 0, 64) := by decide +kernel
theorem z83_64 : jcd 83 64 = some (.getfield 97, 67) := by decide +kernel
theorem z83_67 : jcd 83 67 = some (.sipush 300, 70) := by decide +kernel
theorem z83_70 : jcd 83 70 = some (.if_icmp .ne 77, 73) := by decide +kernel
theorem z83_73 : jcd 83 73 = some (.iconst 1, 74) := by decide +kernel
theorem z83_74 : jcd 83 74 = some (.goto 78, 77) := by decide +kernel
theorem z83_77 : jcd 83 77 = some (.iconst 0, 78) := by decide +kernel
theorem z83_78 : jcd 83 78 = some (.iconst 0, 79) := by decide +kernel
theorem z83_79 : jcd 83 79 = some (.invokevirtual 86, 82) := by decide +kernel
theorem z83_82 : jcd 83 82 = some (.ifCond .eq 87, 85) := by decide +kernel
theorem z83_85 : jcd 83 85 = some (.iconst 0, 86) := by decide +kernel
theorem z83_86 : jcd 83 86 = some (.ireturn, 87) := by decide +kernel
theorem z83_87 : jcd 83 87 = some (.aload 0, 88) := by decide +kernel
theorem z83_88 : jcd 83 88 = some (.iload 1, 89) := by decide +kernel
theorem z83_89 : jcd 83 89 = some (.iload 2, 90) := by decide +kernel
theorem z83_90 : jcd 83 90 = some (.iconst 1, 91) := by decide +kernel
theorem z83_91 : jcd 83 91 = some (.invokevirtual 130, 94) := by decide +kernel
theorem z83_94 : jcd 83 94 = some (.ireturn, 95) := by decide +kernel
theorem z84_0 : jcd 84 0 = some (.aload 0, 1) := by decide +kernel
theorem z84_1 : jcd 84 1 = some (.iload 1, 2) := by decide +kernel
theorem z84_2 : jcd 84 2 = some (.iload 2, 3) := by decide +kernel
theorem z84_3 : jcd 84 3 = some (.invokevirtual 120, 6) := by decide +kernel
theorem z84_6 : jcd 84 6 = some (.ifCond .ne 13, 9) := by decide +kernel
theorem z84_9 : jcd 84 9 = some (.iconst 1, 10) := by decide +kernel
theorem z84_10 : jcd 84 10 = some (.goto 14, 13) := by decide +kernel
theorem z84_13 : jcd 84 13 = some (.iconst 0, 14) := by decide +kernel
theorem z84_14 : jcd 84 14 = some (.istore 4, 16) := by decide +kernel
theorem z84_16 : jcd 84 16 = some (.aload 0, 17) := by decide +kernel
theorem z84_17 : jcd 84 17 = some (.iload 4, 19) := by decide +kernel
theorem z84_19 : jcd 84 19 = some (.iload 4, 21) := by decide +kernel
theorem z84_21 : jcd 84 21 = some (.ifCond .ne 60, 24) := by decide +kernel
theorem z84_24 : jcd 84 24 = some (.aload 0, 25) := by decide +kernel
theorem z84_25 : jcd 84 25 = some (.getfield 30, 28) := by decide +kernel
theorem z84_28 : jcd 84 28 = some (.bipush 16, 30) := by decide +kernel
theorem z84_30 : jcd 84 30 = some (.iload 1, 31) := by decide +kernel
theorem z84_31 : jcd 84 31 = some (.imul, 32) := by decide +kernel
theorem z84_32 : jcd 84 32 = some (.iload 2, 33) := by decide +kernel
theorem z84_33 : jcd 84 33 = some (.iadd, 34) := by decide +kernel
theorem z84_34 : jcd 84 34 = some (.baload, 35) := by decide +kernel
theorem z84_35 : jcd 84 35 = some (.iload 3, 36) := by decide +kernel
theorem z84_36 : jcd 84 36 = some (.if_icmp .eq 56, 39) := by decide +kernel
theorem z84_39 : jcd 84 39 = some (.iload 3, 40) := by decide +kernel
theorem z84_40 : jcd 84 40 = some (.ifCond .eq 60, 43) := by decide +kernel
theorem z84_43 : jcd 84 43 = some (.aload 0, 44) := by decide +kernel
theorem z84_44 : jcd 84 44 = some (.iload 1, 45) := by decide +kernel
theorem z84_45 : jcd 84 45 = some (.iload 2, 46) := by decide +kernel
theorem z84_46 : jcd 84 46 = some (.aload 0, 47) := by decide +kernel
theorem z84_47 : jcd 84 47 = some (.getfield 94, 50) := by decide +kernel
theorem z84_50 : jcd 84 50 = some (.invokevirtual 108, 53) := by decide +kernel
theorem z84_53 : jcd 84 53 = some (.ifCond .ne 60, 56) := by decide +kernel
theorem z84_56 : jcd 84 56 = some (.iconst 1, 57) := by decide +kernel
theorem z84_57 : jcd 84 57 = some (.goto 61, 60) := by decide +kernel
theorem z84_60 : jcd 84 60 = some (.iconst 0, 61) := by decide +kernel
theorem z84_61 : jcd 84 61 = some (.iconst 0, 62) := by decide +kernel
theorem z84_62 : jcd 84 62 = some (.iconst 0, 63) := by decide +kernel
theorem z84_63 : jcd 84 63 = some (.invokevirtual 86, 66) := by decide +kernel
theorem z84_66 : jcd 84 66 = some (.ifCond .eq 70, 69) := by decide +kernel
theorem z84_69 : jcd 84 69 = some (.return_, 70) := by decide +kernel
theorem z84_70 : jcd 84 70 = some (.aload 0, 71) := by decide +kernel
theorem z84_71 : jcd 84 71 = some (.getfield 30, 74) := by decide +kernel
theorem z84_74 : jcd 84 74 = some (.bipush 16, 76) := by decide +kernel
theorem z84_76 : jcd 84 76 = some (.iload 1, 77) := by decide +kernel
theorem z84_77 : jcd 84 77 = some (.imul, 78) := by decide +kernel
theorem z84_78 : jcd 84 78 = some (.iload 2, 79) := by decide +kernel
theorem z84_79 : jcd 84 79 = some (.iadd, 80) := by decide +kernel
theorem z84_80 : jcd 84 80 = some (.iload 3, 81) := by decide +kernel
theorem z84_81 : jcd 84 81 = some (.bastore, 82) := by decide +kernel
theorem z84_82 : jcd 84 82 = some (.return_, 83) := by decide +kernel
theorem z85_0 : jcd 85 0 = some (.aload 0, 1) := by decide +kernel
theorem z85_1 : jcd 85 1 = some (.iload 1, 2) := by decide +kernel
theorem z85_2 : jcd 85 2 = some (.iload 2, 3) := by decide +kernel
theorem z85_3 : jcd 85 3 = some (.invokevirtual 120, 6) := by decide +kernel
theorem z85_6 : jcd 85 6 = some (.ifCond .ne 13, 9) := by decide +kernel
theorem z85_9 : jcd 85 9 = some (.iconst 1, 10) := by decide +kernel
theorem z85_10 : jcd 85 10 = some (.goto 14, 13) := by decide +kernel
theorem z85_13 : jcd 85 13 = some (.iconst 0, 14) := by decide +kernel
theorem z85_14 : jcd 85 14 = some (.istore 3, 15) := by decide +kernel
theorem z85_15 : jcd 85 15 = some (.aload 0, 16) := by decide +kernel
theorem z85_16 : jcd 85 16 = some (.iload 3, 17) := by decide +kernel
theorem z85_17 : jcd 85 17 = some (.iload 3, 18) := by decide +kernel
theorem z85_18 : jcd 85 18 = some (.ifCond .ne 38, 21) := by decide +kernel
theorem z85_21 : jcd 85 21 = some (.aload 0, 22) := by decide +kernel
theorem z85_22 : jcd 85 22 = some (.iload 1, 23) := by decide +kernel
theorem z85_23 : jcd 85 23 = some (.iload 2, 24) := by decide +kernel
theorem z85_24 : jcd 85 24 = some (.aload 0, 25) := by decide +kernel
theorem z85_25 : jcd 85 25 = some (.getfield 94, 28) := by decide +kernel
theorem z85_28 : jcd 85 28 = some (.invokevirtual 108, 31) := by decide +kernel
theorem z85_31 : jcd 85 31 = some (.ifCond .ne 38, 34) := by decide +kernel
theorem z85_34 : jcd 85 34 = some (.iconst 1, 35) := by decide +kernel
theorem z85_35 : jcd 85 35 = some (.goto 39, 38) := by decide +kernel
theorem z85_38 : jcd 85 38 = some (.iconst 0, 39) := by decide +kernel
theorem z85_39 : jcd 85 39 = some (.iconst 0, 40) := by decide +kernel
theorem z85_40 : jcd 85 40 = some (.iconst 0, 41) := by decide +kernel
theorem z85_41 : jcd 85 41 = some (.invokevirtual 86, 44) := by decide +kernel
theorem z85_44 : jcd 85 44 = some (.ifCond .eq 49, 47) := by decide +kernel
theorem z85_47 : jcd 85 47 = some (.iconst 0, 48) := by decide +kernel
theorem z85_48 : jcd 85 48 = some (.ireturn, 49) := by decide +kernel
theorem z85_49 : jcd 85 49 = some (.aload 0, 50) := by decide +kernel
theorem z85_50 : jcd 85 50 = some (.iload 1, 51) := by decide +kernel
theorem z85_51 : jcd 85 51 = some (.iload 2, 52) := by decide +kernel
theorem z85_52 : jcd 85 52 = some (.aload 0, 53) := by decide +kernel
theorem z85_53 : jcd 85 53 = some (.getfield 94, 56) := by decide +kernel
theorem z85_56 : jcd 85 56 = some (.invokevirtual 100, 59) := by decide +kernel
theorem z85_59 : jcd 85 59 = some (.istore 4, 61) := by decide +kernel
theorem z85_61 : jcd 85 61 = some (.aload 0, 62) := by decide +kernel
theorem z85_62 : jcd 85 62 = some (.getfield 51, 65) := by decide +kernel
theorem z85_65 : jcd 85 65 = some (.bipush 16, 67) := by decide +kernel
theorem z85_67 : jcd 85 67 = some (.iload 1, 68) := by decide +kernel
theorem z85_68 : jcd 85 68 = some (.imul, 69) := by decide +kernel
theorem z85_69 : jcd 85 69 = some (.iload 2, 70) := by decide +kernel
theorem z85_70 : jcd 85 70 = some (.iadd, 71) := by decide +kernel
theorem z85_71 : jcd 85 71 = some (.iaload, 72) := by decide +kernel
theorem z85_72 : jcd 85 72 = some (.aload 0, 73) := by decide +kernel
theorem z85_73 : jcd 85 73 = some (.getfield 94, 76) := by decide +kernel
theorem z85_76 : jcd 85 76 = some (.if_icmp .eq 128, 79) := by decide +kernel
theorem z85_79 : jcd 85 79 = some (.aload 0, 80) := by decide +kernel
theorem z85_80 : jcd 85 80 = some (.getfield 45, 83) := by decide +kernel
theorem z85_83 : jcd 85 83 = some (.iload 4, 85) := by decide +kernel
theorem z85_85 : jcd 85 85 = some (.iaload, 86) := by decide +kernel
theorem z85_86 : jcd 85 86 = some (.aload 0, 87) := by decide +kernel
theorem z85_87 : jcd 85 87 = some (.getfield 20, 90) := by decide +kernel
theorem z85_90 : jcd 85 90 = some (.iload 2, 91) := by decide +kernel
theorem z85_91 : jcd 85 91 = some (.iaload, 92) := by decide +kernel
theorem z85_92 : jcd 85 92 = some (.if_icmp .ge 128, 95) := by decide +kernel
theorem z85_95 : jcd 85 95 = some (.aload 0, 96) := by decide +kernel
theorem z85_96 : jcd 85 96 = some (.getfield 48, 99) := by decide +kernel
theorem z85_99 : jcd 85 99 = some (.bipush 50, 101) := by decide +kernel
theorem z85_101 : jcd 85 101 = some (.iload 4, 103) := by decide +kernel
theorem z85_103 : jcd 85 103 = some (.imul, 104) := by decide +kernel
theorem z85_104 : jcd 85 104 = some (.aload 0, 105) := by decide +kernel
theorem z85_105 : jcd 85 105 = some (.getfield 45, 108) := by decide +kernel
theorem z85_108 : jcd 85 108 = some (.iload 4, 110) := by decide +kernel
theorem z85_110 : jcd 85 110 = some (.iaload, 111) := by decide +kernel
theorem z85_111 : jcd 85 111 = some (.iadd, 112) := by decide +kernel
theorem z85_112 : jcd 85 112 = some (.aload 0, 113) := by decide +kernel
theorem z85_113 : jcd 85 113 = some (.getfield 94, 116) := by decide +kernel
theorem z85_116 : jcd 85 116 = some (.iastore, 117) := by decide +kernel
theorem z85_117 : jcd 85 117 = some (.aload 0, 118) := by decide +kernel
theorem z85_118 : jcd 85 118 = some (.getfield 45, 121) := by decide +kernel
theorem z85_121 : jcd 85 121 = some (.iload 4, 123) := by decide +kernel
theorem z85_123 : jcd 85 123 = some (.dup2, 124) := by decide +kernel
theorem z85_124 : jcd 85 124 = some (.iaload, 125) := by decide +kernel
theorem z85_125 : jcd 85 125 = some (.iconst 1, 126) := by decide +kernel
theorem z85_126 : jcd 85 126 = some (.iadd, 127) := by decide +kernel
theorem z85_127 : jcd 85 127 = some (.iastore, 128) := by decide +kernel
theorem z85_128 : jcd 85 128 = some (.aload 0, 129) := by decide +kernel
theorem z85_129 : jcd 85 129 = some (.getfield 51, 132) := by decide +kernel
theorem z85_132 : jcd 85 132 = some (.bipush 16, 134) := by decide +kernel
theorem z85_134 : jcd 85 134 = some (.iload 1, 135) := by decide +kernel
theorem z85_135 : jcd 85 135 = some (.imul, 136) := by decide +kernel
theorem z85_136 : jcd 85 136 = some (.iload 2, 137) := by decide +kernel
theorem z85_137 : jcd 85 137 = some (.iadd, 138) := by decide +kernel
theorem z85_138 : jcd 85 138 = some (.aload 0, 139) := by decide +kernel
theorem z85_139 : jcd 85 139 = some (.getfield 94, 142) := by decide +kernel
theorem z85_142 : jcd 85 142 = some (.iastore, 143) := by decide +kernel
theorem z85_143 : jcd 85 143 = some (.aload 0, 144) := by decide +kernel
theorem z85_144 : jcd 85 144 = some (.getfield 45, 147) := by decide +kernel
theorem z85_147 : jcd 85 147 = some (.iload 4, 149) := by decide +kernel
theorem z85_149 : jcd 85 149 = some (.iaload, 150) := by decide +kernel
theorem z85_150 : jcd 85 150 = some (.ireturn, 151) := by decide +kernel
theorem z86_0 : jcd 86 0 = some (.aload 0, 1) := by decide +kernel
theorem z86_1 : jcd 86 1 = some (.aload 0, 2) := by decide +kernel
theorem z86_2 : jcd 86 2 = some (.iload 1, 3) := by decide +kernel
theorem z86_3 : jcd 86 3 = some (.iload 2, 4) := by decide +kernel
theorem z86_4 : jcd 86 4 = some (.invokevirtual 120, 7) := by decide +kernel
theorem z86_7 : jcd 86 7 = some (.ifCond .ne 14, 10) := by decide +kernel
theorem z86_10 : jcd 86 10 = some (.iconst 1, 11) := by decide +kernel
theorem z86_11 : jcd 86 11 = some (.goto 15, 14) := by decide +kernel
theorem z86_14 : jcd 86 14 = some (.iconst 0, 15) := by decide +kernel
theorem z86_15 : jcd 86 15 = some (.iload 3, 16) := by decide +kernel
theorem z86_16 : jcd 86 16 = some (.iconst 0, 17) := by decide +kernel
theorem z86_17 : jcd 86 17 = some (.sipush 9999, 20) := by decide +kernel
theorem z86_20 : jcd 86 20 = some (.invokestatic 78, 23) := by decide +kernel
theorem z86_23 : jcd 86 23 = some (.ifCond .ne 30, 26) := by decide +kernel
theorem z86_26 : jcd 86 26 = some (.iconst 1, 27) := by decide +kernel
theorem z86_27 : jcd 86 27 = some (.goto 31, 30) := by decide +kernel
theorem z86_30 : jcd 86 30 = some (.iconst 0, 31) := by decide +kernel
theorem z86_31 : jcd 86 31 = some (.iconst 0, 32) := by decide +kernel
theorem z86_32 : jcd 86 32 = some (.iconst 0, 33) := by decide +kernel
theorem z86_33 : jcd 86 33 = some (.invokevirtual 86, 36) := by decide +kernel
theorem z86_36 : jcd 86 36 = some (.ifCond .eq 41, 39) := by decide +kernel
theorem z86_39 : jcd 86 39 = some (.iconst 0, 40) := by decide +kernel
theorem z86_40 : jcd 86 40 = some (.ireturn, 41) := by decide +kernel
theorem z86_41 : jcd 86 41 = some (.aload 0, 42) := by decide +kernel
theorem z86_42 : jcd 86 42 = some (.iload 1, 43) := by decide +kernel
theorem z86_43 : jcd 86 43 = some (.iload 2, 44) := by decide +kernel
theorem z86_44 : jcd 86 44 = some (.iload 3, 45) := by decide +kernel
theorem z86_45 : jcd 86 45 = some (.invokevirtual 108, 48) := by decide +kernel
theorem z86_48 : jcd 86 48 = some (.ireturn, 49) := by decide +kernel
theorem z87_0 : jcd 87 0 = some (.aload 0, 1) := by decide +kernel
theorem z87_1 : jcd 87 1 = some (.aload 0, 2) := by decide +kernel
theorem z87_2 : jcd 87 2 = some (.iload 1, 3) := by decide +kernel
theorem z87_3 : jcd 87 3 = some (.iload 2, 4) := by decide +kernel
theorem z87_4 : jcd 87 4 = some (.invokevirtual 120, 7) := by decide +kernel
theorem z87_7 : jcd 87 7 = some (.ifCond .ne 14, 10) := by decide +kernel
theorem z87_10 : jcd 87 10 = some (.iconst 1, 11) := by decide +kernel
theorem z87_11 : jcd 87 11 = some (.goto 15, 14) := by decide +kernel
theorem z87_14 : jcd 87 14 = some (.iconst 0, 15) := by decide +kernel
theorem z87_15 : jcd 87 15 = some (.iconst 0, 16) := by decide +kernel
theorem z87_16 : jcd 87 16 = some (.iconst 0, 17) := by decide +kernel
theorem z87_17 : jcd 87 17 = some (.iconst 0, 18) := by decide +kernel
theorem z87_18 : jcd 87 18 = some (.invokevirtual 86, 21) := by decide +kernel
theorem z87_21 : jcd 87 21 = some (.ifCond .eq 26, 24) := by decide +kernel
theorem z87_24 : jcd 87 24 = some (.iconst 0, 25) := by decide +kernel
theorem z87_25 : jcd 87 25 = some (.ireturn, 26) := by decide +kernel
theorem z87_26 : jcd 87 26 = some (.aload 0, 27) := by decide +kernel
theorem z87_27 : jcd 87 27 = some (.iload 1, 28) := by decide +kernel
theorem z87_28 : jcd 87 28 = some (.iload 2, 29) := by decide +kernel
theorem z87_29 : jcd 87 29 = some (.aload 0, 30) := by decide +kernel
theorem z87_30 : jcd 87 30 = some (.getfield 94, 33) := by decide +kernel
theorem z87_33 : jcd 87 33 = some (.invokevirtual 100, 36) := by decide +kernel
theorem z87_36 : jcd 87 36 = some (.istore 3, 37) := by decide +kernel
theorem z87_37 : jcd 87 37 = some (.iload 3, 38) := by decide +kernel
theorem z87_38 : jcd 87 38 = some (.ifCond .ge 45, 41) := by decide +kernel
theorem z87_41 : jcd 87 41 = some (.iconst (-1), 42) := by decide +kernel
theorem z87_42 : jcd 87 42 = some (.goto 54, 45) := by decide +kernel
theorem z87_45 : jcd 87 45 = some (.aload 0, 46) := by decide +kernel
theorem z87_46 : jcd 87 46 = some (.iload 3, 47) := by decide +kernel
theorem z87_47 : jcd 87 47 = some (.aload 0, 48) := by decide +kernel
theorem z87_48 : jcd 87 48 = some (.getfield 94, 51) := by decide +kernel
theorem z87_51 : jcd 87 51 = some (.invokevirtual 104, 54) := by decide +kernel
theorem z87_54 : jcd 87 54 = some (.ireturn, 55) := by decide +kernel
theorem z88_0 : jcd 88 0 = some (.aload 0, 1) := by decide +kernel
theorem z88_1 : jcd 88 1 = some (.aload 0, 2) := by decide +kernel
theorem z88_2 : jcd 88 2 = some (.iload 1, 3) := by decide +kernel
theorem z88_3 : jcd 88 3 = some (.iload 2, 4) := by decide +kernel
theorem z88_4 : jcd 88 4 = some (.invokevirtual 120, 7) := by decide +kernel
theorem z88_7 : jcd 88 7 = some (.ifCond .ne 14, 10) := by decide +kernel
theorem z88_10 : jcd 88 10 = some (.iconst 1, 11) := by decide +kernel
theorem z88_11 : jcd 88 11 = some (.goto 15, 14) := by decide +kernel
theorem z88_14 : jcd 88 14 = some (.iconst 0, 15) := by decide +kernel
theorem z88_15 : jcd 88 15 = some (.iconst 0, 16) := by decide +kernel
theorem z88_16 : jcd 88 16 = some (.iconst 0, 17) := by decide +kernel
theorem z88_17 : jcd 88 17 = some (.iconst 0, 18) := by decide +kernel
theorem z88_18 : jcd 88 18 = some (.invokevirtual 86, 21) := by decide +kernel
theorem z88_21 : jcd 88 21 = some (.ifCond .eq 26, 24) := by decide +kernel
theorem z88_24 : jcd 88 24 = some (.iconst 0, 25) := by decide +kernel
theorem z88_25 : jcd 88 25 = some (.ireturn, 26) := by decide +kernel
theorem z88_26 : jcd 88 26 = some (.aload 0, 27) := by decide +kernel
theorem z88_27 : jcd 88 27 = some (.iload 1, 28) := by decide +kernel
theorem z88_28 : jcd 88 28 = some (.iload 2, 29) := by decide +kernel
theorem z88_29 : jcd 88 29 = some (.invokevirtual 111, 32) := by decide +kernel
theorem z88_32 : jcd 88 32 = some (.ireturn, 33) := by decide +kernel
theorem z89_0 : jcd 89 0 = some (.aload 0, 1) := by decide +kernel
theorem z89_1 : jcd 89 1 = some (.aload 0, 2) := by decide +kernel
theorem z89_2 : jcd 89 2 = some (.iload 1, 3) := by decide +kernel
theorem z89_3 : jcd 89 3 = some (.iload 2, 4) := by decide +kernel
theorem z89_4 : jcd 89 4 = some (.invokevirtual 120, 7) := by decide +kernel
theorem z89_7 : jcd 89 7 = some (.ifCond .ne 14, 10) := by decide +kernel
theorem z89_10 : jcd 89 10 = some (.iconst 1, 11) := by decide +kernel
theorem z89_11 : jcd 89 11 = some (.goto 15, 14) := by decide +kernel
theorem z89_14 : jcd 89 14 = some (.iconst 0, 15) := by decide +kernel
theorem z89_15 : jcd 89 15 = some (.iconst 0, 16) := by decide +kernel
theorem z89_16 : jcd 89 16 = some (.iconst 0, 17) := by decide +kernel
theorem z89_17 : jcd 89 17 = some (.iconst 0, 18) := by decide +kernel
theorem z89_18 : jcd 89 18 = some (.invokevirtual 86, 21) := by decide +kernel
theorem z89_21 : jcd 89 21 = some (.ifCond .eq 26, 24) := by decide +kernel
theorem z89_24 : jcd 89 24 = some (.iconst 0, 25) := by decide +kernel
theorem z89_25 : jcd 89 25 = some (.ireturn, 26) := by decide +kernel
theorem z89_26 : jcd 89 26 = some (.aload 0, 27) := by decide +kernel
theorem z89_27 : jcd 89 27 = some (.iload 1, 28) := by decide +kernel
theorem z89_28 : jcd 89 28 = some (.iload 2, 29) := by decide +kernel
theorem z89_29 : jcd 89 29 = some (.invokevirtual 123, 32) := by decide +kernel
theorem z89_32 : jcd 89 32 = some (.ireturn, 33) := by decide +kernel
theorem z90_0 : jcd 90 0 = some (.aload 0, 1) := by decide +kernel
theorem z90_1 : jcd 90 1 = some (.aload 0, 2) := by decide +kernel
theorem z90_2 : jcd 90 2 = some (.iload 1, 3) := by decide +kernel
theorem z90_3 : jcd 90 3 = some (.invokevirtual 82, 6) := by decide +kernel
theorem z90_6 : jcd 90 6 = some (.ifCond .ne 13, 9) := by decide +kernel
theorem z90_9 : jcd 90 9 = some (.iconst 1, 10) := by decide +kernel
theorem z90_10 : jcd 90 10 = some (.goto 14, 13) := by decide +kernel
theorem z90_13 : jcd 90 13 = some (.iconst 0, 14) := by decide +kernel
theorem z90_14 : jcd 90 14 = some (.iconst 0, 15) := by decide +kernel
theorem z90_15 : jcd 90 15 = some (.iconst 0, 16) := by decide +kernel
theorem z90_16 : jcd 90 16 = some (.iconst 0, 17) := by decide +kernel
theorem z90_17 : jcd 90 17 = some (.invokevirtual 86, 20) := by decide +kernel
theorem z90_20 : jcd 90 20 = some (.ifCond .eq 25, 23) := by decide +kernel
theorem z90_23 : jcd 90 23 = some (.iconst 0, 24) := by decide +kernel
theorem z90_24 : jcd 90 24 = some (.ireturn, 25) := by decide +kernel
theorem z90_25 : jcd 90 25 = some (.aload 0, 26) := by decide +kernel
theorem z90_26 : jcd 90 26 = some (.iload 1, 27) := by decide +kernel
theorem z90_27 : jcd 90 27 = some (.invokevirtual 126, 30) := by decide +kernel
theorem z90_30 : jcd 90 30 = some (.ireturn, 31) := by decide +kernel
theorem z91_0 : jcd 91 0 = some (.iconst 0, 1) := by decide +kernel
theorem z91_1 : jcd 91 1 = some (.istore 2, 2) := by decide +kernel
theorem z91_2 : jcd 91 2 = some (.iconst 0, 3) := by decide +kernel
theorem z91_3 : jcd 91 3 = some (.istore 3, 4) := by decide +kernel
theorem z91_4 : jcd 91 4 = some (.iload 3, 5) := by decide +kernel
theorem z91_5 : jcd 91 5 = some (.bipush 20, 7) := by decide +kernel
theorem z91_7 : jcd 91 7 = some (.if_icmp .ge 23, 10) := by decide +kernel
theorem z91_10 : jcd 91 10 = some (.aload 0, 11) := by decide +kernel
theorem z91_11 : jcd 91 11 = some (.getfield 66, 14) := by decide +kernel
theorem z91_14 : jcd 91 14 = some (.iload 3, 15) := by decide +kernel
theorem z91_15 : jcd 91 15 = some (.iconst (-1), 16) := by decide +kernel
theorem z91_16 : jcd 91 16 = some (.iastore, 17) := by decide +kernel
theorem z91_17 : jcd 91 17 = some (.iinc 3 1, 20) := by decide +kernel
theorem z91_20 : jcd 91 20 = some (.goto 4, 23) := by decide +kernel
theorem z91_23 : jcd 91 23 = some (.iconst 0, 24) := by decide +kernel
theorem z91_24 : jcd 91 24 = some (.istore 3, 25) := by decide +kernel
theorem z91_25 : jcd 91 25 = some (.iload 3, 26) := by decide +kernel
theorem z91_26 : jcd 91 26 = some (.bipush 20, 28) := by decide +kernel
theorem z91_28 : jcd 91 28 = some (.if_icmp .ge 79, 31) := by decide +kernel
theorem z91_31 : jcd 91 31 = some (.aload 0, 32) := by decide +kernel
theorem z91_32 : jcd 91 32 = some (.getfield 63, 35) := by decide +kernel
theorem z91_35 : jcd 91 35 = some (.bipush 20, 37) := by decide +kernel
theorem z91_37 : jcd 91 37 = some (.iload 1, 38) := by decide +kernel
theorem z91_38 : jcd 91 38 = some (.imul, 39) := by decide +kernel
theorem z91_39 : jcd 91 39 = some (.iload 3, 40) := by decide +kernel
theorem z91_40 : jcd 91 40 = some (.iadd, 41) := by decide +kernel
theorem z91_41 : jcd 91 41 = some (.baload, 42) := by decide +kernel
theorem z91_42 : jcd 91 42 = some (.ifCond .eq 73, 45) := by decide +kernel
theorem z91_45 : jcd 91 45 = some (.aload 0, 46) := by decide +kernel
theorem z91_46 : jcd 91 46 = some (.iload 3, 47) := by decide +kernel
theorem z91_47 : jcd 91 47 = some (.invokevirtual 134, 50) := by decide +kernel
theorem z91_50 : jcd 91 50 = some (.ifCond .ge 73, 53) := by decide +kernel
theorem z91_53 : jcd 91 53 = some (.aload 0, 54) := by decide +kernel
theorem z91_54 : jcd 91 54 = some (.getfield 66, 57) := by decide +kernel
theorem z91_57 : jcd 91 57 = some (.iload 3, 58) := by decide +kernel
theorem z91_58 : jcd 91 58 = some (.bipush 100, 60) := by decide +kernel
theorem z91_60 : jcd 91 60 = some (.iload 1, 61) := by decide +kernel
theorem z91_61 : jcd 91 61 = some (.iadd, 62) := by decide +kernel
theorem z91_62 : jcd 91 62 = some (.iastore, 63) := by decide +kernel
theorem z91_63 : jcd 91 63 = some (.aload 0, 64) := by decide +kernel
theorem z91_64 : jcd 91 64 = some (.getfield 69, 67) := by decide +kernel
theorem z91_67 : jcd 91 67 = some (.iload 2, 68) := by decide +kernel
theorem z91_68 : jcd 91 68 = some (.iload 3, 69) := by decide +kernel
theorem z91_69 : jcd 91 69 = some (.iastore, 70) := by decide +kernel
theorem z91_70 : jcd 91 70 = some (.iinc 2 1, 73) := by decide +kernel
theorem z91_73 : jcd 91 73 = some (.iinc 3 1, 76) := by decide +kernel
theorem z91_76 : jcd 91 76 = some (.goto 25, 79) := by decide +kernel
theorem z91_79 : jcd 91 79 = some (.iconst 0, 80) := by decide +kernel
theorem z91_80 : jcd 91 80 = some (.istore 3, 81) := by decide +kernel
theorem z91_81 : jcd 91 81 = some (.iload 3, 82) := by decide +kernel
theorem z91_82 : jcd 91 82 = some (.iload 2, 83) := by decide +kernel
theorem z91_83 : jcd 91 83 = some (.if_icmp .ge 197, 86) := by decide +kernel
theorem z91_86 : jcd 91 86 = some (.aload 0, 87) := by decide +kernel
theorem z91_87 : jcd 91 87 = some (.getfield 69, 90) := by decide +kernel
theorem z91_90 : jcd 91 90 = some (.iload 3, 91) := by decide +kernel
theorem z91_91 : jcd 91 91 = some (.iaload, 92) := by decide +kernel
theorem z91_92 : jcd 91 92 = some (.istore 4, 94) := by decide +kernel
theorem z91_94 : jcd 91 94 = some (.aload 0, 95) := by decide +kernel
theorem z91_95 : jcd 91 95 = some (.getfield 60, 98) := by decide +kernel
theorem z91_98 : jcd 91 98 = some (.iload 4, 100) := by decide +kernel
theorem z91_100 : jcd 91 100 = some (.iaload, 101) := by decide +kernel
theorem z91_101 : jcd 91 101 = some (.istore 5, 103) := by decide +kernel
theorem z91_103 : jcd 91 103 = some (.iload 5, 105) := by decide +kernel
theorem z91_105 : jcd 91 105 = some (.ifCond .ge 117, 108) := by decide +kernel
theorem z91_108 : jcd 91 108 = some (.aload 0, 109) := by decide +kernel
theorem z91_109 : jcd 91 109 = some (.iload 4, 111) := by decide +kernel
theorem z91_111 : jcd 91 111 = some (.iload 1, 112) := by decide +kernel
theorem z91_112 : jcd 91 112 = some (.invokevirtual 137, 115) := by decide +kernel
theorem z91_115 : jcd 91 115 = some (.iconst 1, 116) := by decide +kernel
theorem z91_116 : jcd 91 116 = some (.ireturn, 117) := by decide +kernel
theorem z91_117 : jcd 91 117 = some (.iconst 0, 118) := by decide +kernel
theorem z91_118 : jcd 91 118 = some (.istore 6, 120) := by decide +kernel
theorem z91_120 : jcd 91 120 = some (.iload 6, 122) := by decide +kernel
theorem z91_122 : jcd 91 122 = some (.bipush 20, 124) := by decide +kernel
theorem z91_124 : jcd 91 124 = some (.if_icmp .ge 191, 127) := by decide +kernel
theorem z91_127 : jcd 91 127 = some (.aload 0, 128) := by decide +kernel
theorem z91_128 : jcd 91 128 = some (.getfield 63, 131) := by decide +kernel
theorem z91_131 : jcd 91 131 = some (.bipush 20, 133) := by decide +kernel
theorem z91_133 : jcd 91 133 = some (.iload 5, 135) := by decide +kernel
theorem z91_135 : jcd 91 135 = some (.imul, 136) := by decide +kernel
theorem z91_136 : jcd 91 136 = some (.iload 6, 138) := by decide +kernel
theorem z91_138 : jcd 91 138 = some (.iadd, 139) := by decide +kernel
theorem z91_139 : jcd 91 139 = some (.baload, 140) := by decide +kernel
theorem z91_140 : jcd 91 140 = some (.ifCond .eq 185, 143) := by decide +kernel
theorem z91_143 : jcd 91 143 = some (.aload 0, 144) := by decide +kernel
theorem z91_144 : jcd 91 144 = some (.getfield 66, 147) := by decide +kernel
theorem z91_147 : jcd 91 147 = some (.iload 6, 149) := by decide +kernel
theorem z91_149 : jcd 91 149 = some (.iaload, 150) := by decide +kernel
theorem z91_150 : jcd 91 150 = some (.ifCond .ge 185, 153) := by decide +kernel
theorem z91_153 : jcd 91 153 = some (.aload 0, 154) := by decide +kernel
theorem z91_154 : jcd 91 154 = some (.iload 6, 156) := by decide +kernel
theorem z91_156 : jcd 91 156 = some (.invokevirtual 134, 159) := by decide +kernel
theorem z91_159 : jcd 91 159 = some (.ifCond .ge 185, 162) := by decide +kernel
theorem z91_162 : jcd 91 162 = some (.aload 0, 163) := by decide +kernel
theorem z91_163 : jcd 91 163 = some (.getfield 66, 166) := by decide +kernel
theorem z91_166 : jcd 91 166 = some (.iload 6, 168) := by decide +kernel
theorem z91_168 : jcd 91 168 = some (.bipush 100, 170) := by decide +kernel
theorem z91_170 : jcd 91 170 = some (.iload 5, 172) := by decide +kernel
theorem z91_172 : jcd 91 172 = some (.iadd, 173) := by decide +kernel
theorem z91_173 : jcd 91 173 = some (.iastore, 174) := by decide +kernel
theorem z91_174 : jcd 91 174 = some (.aload 0, 175) := by decide +kernel
theorem z91_175 : jcd 91 175 = some (.getfield 69, 178) := by decide +kernel
theorem z91_178 : jcd 91 178 = some (.iload 2, 179) := by decide +kernel
theorem z91_179 : jcd 91 179 = some (.iload 6, 181) := by decide +kernel
theorem z91_181 : jcd 91 181 = some (.iastore, 182) := by decide +kernel
theorem z91_182 : jcd 91 182 = some (.iinc 2 1, 185) := by decide +kernel
theorem z91_185 : jcd 91 185 = some (.iinc 6 1, 188) := by decide +kernel
theorem z91_188 : jcd 91 188 = some (.goto 120, 191) := by decide +kernel
theorem z91_191 : jcd 91 191 = some (.iinc 3 1, 194) := by decide +kernel
theorem z91_194 : jcd 91 194 = some (.goto 81, 197) := by decide +kernel
theorem z91_197 : jcd 91 197 = some (.iconst 0, 198) := by decide +kernel
theorem z91_198 : jcd 91 198 = some (.ireturn, 199) := by decide +kernel
theorem z92_0 : jcd 92 0 = some (.iload 1, 1) := by decide +kernel
theorem z92_1 : jcd 92 1 = some (.istore 3, 2) := by decide +kernel
theorem z92_2 : jcd 92 2 = some (.aload 0, 3) := by decide +kernel
theorem z92_3 : jcd 92 3 = some (.getfield 66, 6) := by decide +kernel
theorem z92_6 : jcd 92 6 = some (.iload 3, 7) := by decide +kernel
theorem z92_7 : jcd 92 7 = some (.iaload, 8) := by decide +kernel
theorem z92_8 : jcd 92 8 = some (.bipush 100, 10) := by decide +kernel
theorem z92_10 : jcd 92 10 = some (.isub, 11) := by decide +kernel
theorem z92_11 : jcd 92 11 = some (.istore 4, 13) := by decide +kernel
theorem z92_13 : jcd 92 13 = some (.iload 4, 15) := by decide +kernel
theorem z92_15 : jcd 92 15 = some (.iload 2, 16) := by decide +kernel
theorem z92_16 : jcd 92 16 = some (.if_icmp .eq 52, 19) := by decide +kernel
theorem z92_19 : jcd 92 19 = some (.aload 0, 20) := by decide +kernel
theorem z92_20 : jcd 92 20 = some (.iload 4, 22) := by decide +kernel
theorem z92_22 : jcd 92 22 = some (.invokevirtual 141, 25) := by decide +kernel
theorem z92_25 : jcd 92 25 = some (.istore 5, 27) := by decide +kernel
theorem z92_27 : jcd 92 27 = some (.aload 0, 28) := by decide +kernel
theorem z92_28 : jcd 92 28 = some (.getfield 60, 31) := by decide +kernel
theorem z92_31 : jcd 92 31 = some (.iload 3, 32) := by decide +kernel
theorem z92_32 : jcd 92 32 = some (.iload 4, 34) := by decide +kernel
theorem z92_34 : jcd 92 34 = some (.iastore, 35) := by decide +kernel
theorem z92_35 : jcd 92 35 = some (.iload 5, 37) := by decide +kernel
theorem z92_37 : jcd 92 37 = some (.istore 3, 38) := by decide +kernel
theorem z92_38 : jcd 92 38 = some (.aload 0, 39) := by decide +kernel
theorem z92_39 : jcd 92 39 = some (.getfield 66, 42) := by decide +kernel
theorem z92_42 : jcd 92 42 = some (.iload 3, 43) := by decide +kernel
theorem z92_43 : jcd 92 43 = some (.iaload, 44) := by decide +kernel
theorem z92_44 : jcd 92 44 = some (.bipush 100, 46) := by decide +kernel
theorem z92_46 : jcd 92 46 = some (.isub, 47) := by decide +kernel
theorem z92_47 : jcd 92 47 = some (.istore 4, 49) := by decide +kernel
theorem z92_49 : jcd 92 49 = some (.goto 13, 52) := by decide +kernel
theorem z92_52 : jcd 92 52 = some (.aload 0, 53) := by decide +kernel
theorem z92_53 : jcd 92 53 = some (.getfield 60, 56) := by decide +kernel
theorem z92_56 : jcd 92 56 = some (.iload 3, 57) := by decide +kernel
theorem z92_57 : jcd 92 57 = some (.iload 2, 58) := by decide +kernel
theorem z92_58 : jcd 92 58 = some (.iastore, 59) := by decide +kernel
theorem z92_59 : jcd 92 59 = some (.return_, 60) := by decide +kernel
theorem z93_0 : jcd 93 0 = some (.iconst (-1), 1) := by decide +kernel
theorem z93_1 : jcd 93 1 = some (.istore 2, 2) := by decide +kernel
theorem z93_2 : jcd 93 2 = some (.iconst 0, 3) := by decide +kernel
theorem z93_3 : jcd 93 3 = some (.istore 3, 4) := by decide +kernel
theorem z93_4 : jcd 93 4 = some (.iload 3, 5) := by decide +kernel
theorem z93_5 : jcd 93 5 = some (.bipush 20, 7) := by decide +kernel
theorem z93_7 : jcd 93 7 = some (.if_icmp .ge 32, 10) := by decide +kernel
theorem z93_10 : jcd 93 10 = some (.aload 0, 11) := by decide +kernel
theorem z93_11 : jcd 93 11 = some (.getfield 60, 14) := by decide +kernel
theorem z93_14 : jcd 93 14 = some (.iload 3, 15) := by decide +kernel
theorem z93_15 : jcd 93 15 = some (.iaload, 16) := by decide +kernel
theorem z93_16 : jcd 93 16 = some (.iload 1, 17) := by decide +kernel
theorem z93_17 : jcd 93 17 = some (.if_icmp .ne 24, 20) := by decide +kernel
theorem z93_20 : jcd 93 20 = some (.iload 3, 21) := by decide +kernel
theorem z93_21 : jcd 93 21 = some (.goto 25, 24) := by decide +kernel
theorem z93_24 : jcd 93 24 = some (.iload 2, 25) := by decide +kernel
theorem z93_25 : jcd 93 25 = some (.istore 2, 26) := by decide +kernel
theorem z93_26 : jcd 93 26 = some (.iinc 3 1, 29) := by decide +kernel
theorem z93_29 : jcd 93 29 = some (.goto 4, 32) := by decide +kernel
theorem z93_32 : jcd 93 32 = some (.iload 2, 33) := by decide +kernel
theorem z93_33 : jcd 93 33 = some (.ireturn, 34) := by decide +kernel
theorem z94_0 : jcd 94 0 = some (.iconst (-1), 1) := by decide +kernel
theorem z94_1 : jcd 94 1 = some (.istore 2, 2) := by decide +kernel
theorem z94_2 : jcd 94 2 = some (.iconst 0, 3) := by decide +kernel
theorem z94_3 : jcd 94 3 = some (.istore 3, 4) := by decide +kernel
theorem z94_4 : jcd 94 4 = some (.iload 3, 5) := by decide +kernel
theorem z94_5 : jcd 94 5 = some (.bipush 12, 7) := by decide +kernel
theorem z94_7 : jcd 94 7 = some (.if_icmp .ge 32, 10) := by decide +kernel
theorem z94_10 : jcd 94 10 = some (.aload 0, 11) := by decide +kernel
theorem z94_11 : jcd 94 11 = some (.getfield 57, 14) := by decide +kernel
theorem z94_14 : jcd 94 14 = some (.iload 3, 15) := by decide +kernel
theorem z94_15 : jcd 94 15 = some (.iaload, 16) := by decide +kernel
theorem z94_16 : jcd 94 16 = some (.iload 1, 17) := by decide +kernel
theorem z94_17 : jcd 94 17 = some (.if_icmp .ne 24, 20) := by decide +kernel
theorem z94_20 : jcd 94 20 = some (.iload 3, 21) := by decide +kernel
theorem z94_21 : jcd 94 21 = some (.goto 25, 24) := by decide +kernel
theorem z94_24 : jcd 94 24 = some (.iload 2, 25) := by decide +kernel
theorem z94_25 : jcd 94 25 = some (.istore 2, 26) := by decide +kernel
theorem z94_26 : jcd 94 26 = some (.iinc 3 1, 29) := by decide +kernel
theorem z94_29 : jcd 94 29 = some (.goto 4, 32) := by decide +kernel
theorem z94_32 : jcd 94 32 = some (.iload 2, 33) := by decide +kernel
theorem z94_33 : jcd 94 33 = some (.ireturn, 34) := by decide +kernel
theorem z95_0 : jcd 95 0 = some (.iconst 0, 1) := by decide +kernel
theorem z95_1 : jcd 95 1 = some (.istore 2, 2) := by decide +kernel
theorem z95_2 : jcd 95 2 = some (.iload 2, 3) := by decide +kernel
theorem z95_3 : jcd 95 3 = some (.bipush 20, 5) := by decide +kernel
theorem z95_5 : jcd 95 5 = some (.if_icmp .ge 21, 8) := by decide +kernel
theorem z95_8 : jcd 95 8 = some (.aload 0, 9) := by decide +kernel
theorem z95_9 : jcd 95 9 = some (.getfield 60, 12) := by decide +kernel
theorem z95_12 : jcd 95 12 = some (.iload 2, 13) := by decide +kernel
theorem z95_13 : jcd 95 13 = some (.iconst (-1), 14) := by decide +kernel
theorem z95_14 : jcd 95 14 = some (.iastore, 15) := by decide +kernel
theorem z95_15 : jcd 95 15 = some (.iinc 2 1, 18) := by decide +kernel
theorem z95_18 : jcd 95 18 = some (.goto 2, 21) := by decide +kernel
theorem z95_21 : jcd 95 21 = some (.iconst 0, 22) := by decide +kernel
theorem z95_22 : jcd 95 22 = some (.istore 2, 23) := by decide +kernel
theorem z95_23 : jcd 95 23 = some (.iload 1, 24) := by decide +kernel
theorem z95_24 : jcd 95 24 = some (.istore 3, 25) := by decide +kernel
theorem z95_25 : jcd 95 25 = some (.iload 3, 26) := by decide +kernel
theorem z95_26 : jcd 95 26 = some (.aload 0, 27) := by decide +kernel
theorem z95_27 : jcd 95 27 = some (.getfield 144, 30) := by decide +kernel
theorem z95_30 : jcd 95 30 = some (.if_icmp .ge 55, 33) := by decide +kernel
theorem z95_33 : jcd 95 33 = some (.iload 2, 34) := by decide +kernel
theorem z95_34 : jcd 95 34 = some (.aload 0, 35) := by decide +kernel
theorem z95_35 : jcd 95 35 = some (.iload 3, 36) := by decide +kernel
theorem z95_36 : jcd 95 36 = some (.invokevirtual 147, 39) := by decide +kernel
theorem z95_39 : jcd 95 39 = some (.ifCond .eq 46, 42) := by decide +kernel
theorem z95_42 : jcd 95 42 = some (.iconst 1, 43) := by decide +kernel
theorem z95_43 : jcd 95 43 = some (.goto 47, 46) := by decide +kernel
theorem z95_46 : jcd 95 46 = some (.iconst 0, 47) := by decide +kernel
theorem z95_47 : jcd 95 47 = some (.iadd, 48) := by decide +kernel
theorem z95_48 : jcd 95 48 = some (.istore 2, 49) := by decide +kernel
theorem z95_49 : jcd 95 49 = some (.iinc 3 1, 52) := by decide +kernel
theorem z95_52 : jcd 95 52 = some (.goto 25, 55) := by decide +kernel
theorem z95_55 : jcd 95 55 = some (.iload 2, 56) := by decide +kernel
theorem z95_56 : jcd 95 56 = some (.ireturn, 57) := by decide +kernel
theorem z96_0 : jcd 96 0 = some (.iconst 0, 1) := by decide +kernel
theorem z96_1 : jcd 96 1 = some (.istore 5, 3) := by decide +kernel
theorem z96_3 : jcd 96 3 = some (.iconst 0, 4) := by decide +kernel
theorem z96_4 : jcd 96 4 = some (.istore 6, 6) := by decide +kernel
theorem z96_6 : jcd 96 6 = some (.iload 6, 8) := by decide +kernel
theorem z96_8 : jcd 96 8 = some (.iload 3, 9) := by decide +kernel
theorem z96_9 : jcd 96 9 = some (.if_icmp .ge 54, 12) := by decide +kernel
theorem z96_12 : jcd 96 12 = some (.iload 6, 14) := by decide +kernel
theorem z96_14 : jcd 96 14 = some (.bipush 12, 16) := by decide +kernel
theorem z96_16 : jcd 96 16 = some (.if_icmp .ge 54, 19) := by decide +kernel
theorem z96_19 : jcd 96 19 = some (.iload 5, 21) := by decide +kernel
theorem z96_21 : jcd 96 21 = some (.ifCond .ne 41, 24) := by decide +kernel
theorem z96_24 : jcd 96 24 = some (.aload 0, 25) := by decide +kernel
theorem z96_25 : jcd 96 25 = some (.lload 1, 26) := by decide +kernel
theorem z96_26 : jcd 96 26 = some (.iconst 4, 27) := by decide +kernel
theorem z96_27 : jcd 96 27 = some (.iload 6, 29) := by decide +kernel
theorem z96_29 : jcd 96 29 = some (.imul, 30) := by decide +kernel
theorem z96_30 : jcd 96 30 = some (.lshr, 31) := by decide +kernel
theorem z96_31 : jcd 96 31 = some (.l2i, 32) := by decide +kernel
theorem z96_32 : jcd 96 32 = some (.bipush 15, 34) := by decide +kernel
theorem z96_34 : jcd 96 34 = some (.iand, 35) := by decide +kernel
theorem z96_35 : jcd 96 35 = some (.invokevirtual 82, 38) := by decide +kernel
theorem z96_38 : jcd 96 38 = some (.ifCond .ne 45, 41) := by decide +kernel
theorem z96_41 : jcd 96 41 = some (.iconst 1, 42) := by decide +kernel
theorem z96_42 : jcd 96 42 = some (.goto 46, 45) := by decide +kernel
theorem z96_45 : jcd 96 45 = some (.iconst 0, 46) := by decide +kernel
theorem z96_46 : jcd 96 46 = some (.istore 5, 48) := by decide +kernel
theorem z96_48 : jcd 96 48 = some (.iinc 6 1, 51) := by decide +kernel
theorem z96_51 : jcd 96 51 = some (.goto 6, 54) := by decide +kernel
theorem z96_54 : jcd 96 54 = some (.aload 0, 55) := by decide +kernel
theorem z96_55 : jcd 96 55 = some (.iload 5, 57) := by decide +kernel
theorem z96_57 : jcd 96 57 = some (.iload 3, 58) := by decide +kernel
theorem z96_58 : jcd 96 58 = some (.iconst 0, 59) := by decide +kernel
theorem z96_59 : jcd 96 59 = some (.bipush 12, 61) := by decide +kernel
theorem z96_61 : jcd 96 61 = some (.invokestatic 78, 64) := by decide +kernel
theorem z96_64 : jcd 96 64 = some (.ifCond .eq 79, 67) := by decide +kernel
theorem z96_67 : jcd 96 67 = some (.iload 4, 69) := by decide +kernel
theorem z96_69 : jcd 96 69 = some (.iconst 0, 70) := by decide +kernel
theorem z96_70 : jcd 96 70 = some (.sipush 2100, 73) := by decide +kernel
theorem z96_73 : jcd 96 73 = some (.invokestatic 78, 76) := by decide +kernel
theorem z96_76 : jcd 96 76 = some (.ifCond .ne 83, 79) := by decide +kernel
theorem z96_79 : jcd 96 79 = some (.iconst 1, 80) := by decide +kernel
theorem z96_80 : jcd 96 80 = some (.goto 84, 83) := by decide +kernel
theorem z96_83 : jcd 96 83 = some (.iconst 0, 84) := by decide +kernel
theorem z96_84 : jcd 96 84 = some (.iconst 0, 85) := by decide +kernel
theorem z96_85 : jcd 96 85 = some (.iconst 0, 86) := by decide +kernel
theorem z96_86 : jcd 96 86 = some (.invokevirtual 86, 89) := by decide +kernel
theorem z96_89 : jcd 96 89 = some (.ifCond .eq 94, 92) := by decide +kernel
theorem z96_92 : jcd 96 92 = some (.iconst 0, 93) := by decide +kernel
theorem z96_93 : jcd 96 93 = some (.ireturn, 94) := by decide +kernel
theorem z96_94 : jcd 96 94 = some (.aload 0, 95) := by decide +kernel
theorem z96_95 : jcd 96 95 = some (.iload 3, 96) := by decide +kernel
theorem z96_96 : jcd 96 96 = some (.putfield 144, 99) := by decide +kernel
theorem z96_99 : jcd 96 99 = some (.iconst 0, 100) := by decide +kernel
theorem z96_100 : jcd 96 100 = some (.istore 6, 102) := by decide +kernel
theorem z96_102 : jcd 96 102 = some (.iload 6, 104) := by decide +kernel
theorem z96_104 : jcd 96 104 = some (.bipush 12, 106) := by decide +kernel
theorem z96_106 : jcd 96 106 = some (.if_icmp .ge 123, 109) := by decide +kernel
theorem z96_109 : jcd 96 109 = some (.aload 0, 110) := by decide +kernel
theorem z96_110 : jcd 96 110 = some (.getfield 57, 113) := by decide +kernel
theorem z96_113 : jcd 96 113 = some (.iload 6, 115) := by decide +kernel
theorem z96_115 : jcd 96 115 = some (.iconst (-1), 116) := by decide +kernel
theorem z96_116 : jcd 96 116 = some (.iastore, 117) := by decide +kernel
theorem z96_117 : jcd 96 117 = some (.iinc 6 1, 120) := by decide +kernel
theorem z96_120 : jcd 96 120 = some (.goto 102, 123) := by decide +kernel
theorem z96_123 : jcd 96 123 = some (.iconst 0, 124) := by decide +kernel
theorem z96_124 : jcd 96 124 = some (.istore 6, 126) := by decide +kernel
theorem z96_126 : jcd 96 126 = some (.iload 6, 128) := by decide +kernel
theorem z96_128 : jcd 96 128 = some (.iload 3, 129) := by decide +kernel
theorem z96_129 : jcd 96 129 = some (.if_icmp .ge 229, 132) := by decide +kernel
theorem z96_132 : jcd 96 132 = some (.lload 1, 133) := by decide +kernel
theorem z96_133 : jcd 96 133 = some (.iconst 4, 134) := by decide +kernel
theorem z96_134 : jcd 96 134 = some (.iload 6, 136) := by decide +kernel
theorem z96_136 : jcd 96 136 = some (.imul, 137) := by decide +kernel
theorem z96_137 : jcd 96 137 = some (.lshr, 138) := by decide +kernel
theorem z96_138 : jcd 96 138 = some (.l2i, 139) := by decide +kernel
theorem z96_139 : jcd 96 139 = some (.bipush 15, 141) := by decide +kernel
theorem z96_141 : jcd 96 141 = some (.iand, 142) := by decide +kernel
theorem z96_142 : jcd 96 142 = some (.istore 7, 144) := by decide +kernel
theorem z96_144 : jcd 96 144 = some (.iconst 0, 145) := by decide +kernel
theorem z96_145 : jcd 96 145 = some (.istore 8, 147) := by decide +kernel
theorem z96_147 : jcd 96 147 = some (.iload 8, 149) := by decide +kernel
theorem z96_149 : jcd 96 149 = some (.bipush 20, 151) := by decide +kernel
theorem z96_151 : jcd 96 151 = some (.if_icmp .ge 223, 154) := by decide +kernel
theorem z96_154 : jcd 96 154 = some (.aload 0, 155) := by decide +kernel
theorem z96_155 : jcd 96 155 = some (.getfield 63, 158) := by decide +kernel
theorem z96_158 : jcd 96 158 = some (.bipush 20, 160) := by decide +kernel
theorem z96_160 : jcd 96 160 = some (.iload 6, 162) := by decide +kernel
theorem z96_162 : jcd 96 162 = some (.imul, 163) := by decide +kernel
theorem z96_163 : jcd 96 163 = some (.iload 8, 165) := by decide +kernel
theorem z96_165 : jcd 96 165 = some (.iadd, 166) := by decide +kernel
theorem z96_166 : jcd 96 166 = some (.aload 0, 167) := by decide +kernel
theorem z96_167 : jcd 96 167 = some (.iload 8, 169) := by decide +kernel
theorem z96_169 : jcd 96 169 = some (.iload 7, 171) := by decide +kernel
theorem z96_171 : jcd 96 171 = some (.aload 0, 172) := by decide +kernel
theorem z96_172 : jcd 96 172 = some (.getfield 94, 175) := by decide +kernel
theorem z96_175 : jcd 96 175 = some (.invokevirtual 108, 178) := by decide +kernel
theorem z96_178 : jcd 96 178 = some (.ifCond .eq 215, 181) := by decide +kernel
theorem z96_181 : jcd 96 181 = some (.aload 0, 182) := by decide +kernel
theorem z96_182 : jcd 96 182 = some (.aload 0, 183) := by decide +kernel
theorem z96_183 : jcd 96 183 = some (.iload 8, 185) := by decide +kernel
theorem z96_185 : jcd 96 185 = some (.iload 7, 187) := by decide +kernel
theorem z96_187 : jcd 96 187 = some (.aload 0, 188) := by decide +kernel
theorem z96_188 : jcd 96 188 = some (.getfield 94, 191) := by decide +kernel
theorem z96_191 : jcd 96 191 = some (.invokevirtual 100, 194) := by decide +kernel
theorem z96_194 : jcd 96 194 = some (.aload 0, 195) := by decide +kernel
theorem z96_195 : jcd 96 195 = some (.getfield 94, 198) := by decide +kernel
theorem z96_198 : jcd 96 198 = some (.invokevirtual 104, 201) := by decide +kernel
theorem z96_201 : jcd 96 201 = some (.aload 0, 202) := by decide +kernel
theorem z96_202 : jcd 96 202 = some (.getfield 94, 205) := by decide +kernel
theorem z96_205 : jcd 96 205 = some (.isub, 206) := by decide +kernel
theorem z96_206 : jcd 96 206 = some (.iload 4, 208) := by decide +kernel
theorem z96_208 : jcd 96 208 = some (.if_icmp .gt 215, 211) := by decide +kernel
theorem z96_211 : jcd 96 211 = some (.iconst 1, 212) := by decide +kernel
theorem z96_212 : jcd 96 212 = some (.goto 216, 215) := by decide +kernel
theorem z96_215 : jcd 96 215 = some (.iconst 0, 216) := by decide +kernel
theorem z96_216 : jcd 96 216 = some (.bastore, 217) := by decide +kernel
theorem z96_217 : jcd 96 217 = some (.iinc 8 1, 220) := by decide +kernel
theorem z96_220 : jcd 96 220 = some (.goto 147, 223) := by decide +kernel
theorem z96_223 : jcd 96 223 = some (.iinc 6 1, 226) := by decide +kernel
theorem z96_226 : jcd 96 226 = some (.goto 126, 229) := by decide +kernel
theorem z96_229 : jcd 96 229 = some (.aload 0, 230) := by decide +kernel
theorem z96_230 : jcd 96 230 = some (.iconst 0, 231) := by decide +kernel
theorem z96_231 : jcd 96 231 = some (.invokevirtual 150, 234) := by decide +kernel
theorem z96_234 : jcd 96 234 = some (.istore 6, 236) := by decide +kernel
theorem z96_236 : jcd 96 236 = some (.iload 6, 238) := by decide +kernel
theorem z96_238 : jcd 96 238 = some (.istore 7, 240) := by decide +kernel
theorem z96_240 : jcd 96 240 = some (.iconst 0, 241) := by decide +kernel
theorem z96_241 : jcd 96 241 = some (.istore 8, 243) := by decide +kernel
theorem z96_243 : jcd 96 243 = some (.iload 8, 245) := by decide +kernel
theorem z96_245 : jcd 96 245 = some (.iload 3, 246) := by decide +kernel
theorem z96_246 : jcd 96 246 = some (.if_icmp .ge 358, 249) := by decide +kernel
theorem z96_249 : jcd 96 249 = some (.iconst (-1), 250) := by decide +kernel
theorem z96_250 : jcd 96 250 = some (.istore 9, 252) := by decide +kernel
theorem z96_252 : jcd 96 252 = some (.iconst 0, 253) := by decide +kernel
theorem z96_253 : jcd 96 253 = some (.istore 10, 255) := by decide +kernel
theorem z96_255 : jcd 96 255 = some (.iload 10, 257) := by decide +kernel
theorem z96_257 : jcd 96 257 = some (.bipush 20, 259) := by decide +kernel
theorem z96_259 : jcd 96 259 = some (.if_icmp .ge 337, 262) := by decide +kernel
theorem z96_262 : jcd 96 262 = some (.iload 9, 264) := by decide +kernel
theorem z96_264 : jcd 96 264 = some (.ifCond .ge 337, 267) := by decide +kernel
theorem z96_267 : jcd 96 267 = some (.aload 0, 268) := by decide +kernel
theorem z96_268 : jcd 96 268 = some (.getfield 63, 271) := by decide +kernel
theorem z96_271 : jcd 96 271 = some (.bipush 20, 273) := by decide +kernel
theorem z96_273 : jcd 96 273 = some (.iload 8, 275) := by decide +kernel
theorem z96_275 : jcd 96 275 = some (.imul, 276) := by decide +kernel
theorem z96_276 : jcd 96 276 = some (.iload 10, 278) := by decide +kernel
theorem z96_278 : jcd 96 278 = some (.iadd, 279) := by decide +kernel
theorem z96_279 : jcd 96 279 = some (.baload, 280) := by decide +kernel
theorem z96_280 : jcd 96 280 = some (.ifCond .eq 331, 283) := by decide +kernel
theorem z96_283 : jcd 96 283 = some (.aload 0, 284) := by decide +kernel
theorem z96_284 : jcd 96 284 = some (.iload 10, 286) := by decide +kernel
theorem z96_286 : jcd 96 286 = some (.invokevirtual 134, 289) := by decide +kernel
theorem z96_289 : jcd 96 289 = some (.ifCond .ge 331, 292) := by decide +kernel
theorem z96_292 : jcd 96 292 = some (.aload 0, 293) := by decide +kernel
theorem z96_293 : jcd 96 293 = some (.getfield 57, 296) := by decide +kernel
theorem z96_296 : jcd 96 296 = some (.iload 8, 298) := by decide +kernel
theorem z96_298 : jcd 96 298 = some (.iload 10, 300) := by decide +kernel
theorem z96_300 : jcd 96 300 = some (.iastore, 301) := by decide +kernel
theorem z96_301 : jcd 96 301 = some (.aload 0, 302) := by decide +kernel
theorem z96_302 : jcd 96 302 = some (.iload 8, 304) := by decide +kernel
theorem z96_304 : jcd 96 304 = some (.iconst 1, 305) := by decide +kernel
theorem z96_305 : jcd 96 305 = some (.iadd, 306) := by decide +kernel
theorem z96_306 : jcd 96 306 = some (.invokevirtual 150, 309) := by decide +kernel
theorem z96_309 : jcd 96 309 = some (.iload 7, 311) := by decide +kernel
theorem z96_311 : jcd 96 311 = some (.iconst 1, 312) := by decide +kernel
theorem z96_312 : jcd 96 312 = some (.isub, 313) := by decide +kernel
theorem z96_313 : jcd 96 313 = some (.if_icmp .ne 323, 316) := by decide +kernel
theorem z96_316 : jcd 96 316 = some (.iload 10, 318) := by decide +kernel
theorem z96_318 : jcd 96 318 = some (.istore 9, 320) := by decide +kernel
theorem z96_320 : jcd 96 320 = some (.goto 331, 323) := by decide +kernel
theorem z96_323 : jcd 96 323 = some (.aload 0, 324) := by decide +kernel
theorem z96_324 : jcd 96 324 = some (.getfield 57, 327) := by decide +kernel
theorem z96_327 : jcd 96 327 = some (.iload 8, 329) := by decide +kernel
theorem z96_329 : jcd 96 329 = some (.iconst (-1), 330) := by decide +kernel
theorem z96_330 : jcd 96 330 = some (.iastore, 331) := by decide +kernel
theorem z96_331 : jcd 96 331 = some (.iinc 10 1, 334) := by decide +kernel
theorem z96_334 : jcd 96 334 = some (.goto 255, 337) := by decide +kernel
theorem z96_337 : jcd 96 337 = some (.iload 7, 339) := by decide +kernel
theorem z96_339 : jcd 96 339 = some (.iload 9, 341) := by decide +kernel
theorem z96_341 : jcd 96 341 = some (.ifCond .ge 348, 344) := by decide +kernel
theorem z96_344 : jcd 96 344 = some (.iconst 0, 345) := by decide +kernel
theorem z96_345 : jcd 96 345 = some (.goto 349, 348) := by decide +kernel
theorem z96_348 : jcd 96 348 = some (.iconst 1, 349) := by decide +kernel
theorem z96_349 : jcd 96 349 = some (.isub, 350) := by decide +kernel
theorem z96_350 : jcd 96 350 = some (.istore 7, 352) := by decide +kernel
theorem z96_352 : jcd 96 352 = some (.iinc 8 1, 355) := by decide +kernel
theorem z96_355 : jcd 96 355 = some (.goto 243, 358) := by decide +kernel
theorem z96_358 : jcd 96 358 = some (.iconst 0, 359) := by decide +kernel
theorem z96_359 : jcd 96 359 = some (.istore 8, 361) := by decide +kernel
theorem z96_361 : jcd 96 361 = some (.iload 8, 363) := by decide +kernel
theorem z96_363 : jcd 96 363 = some (.bipush 12, 365) := by decide +kernel
theorem z96_365 : jcd 96 365 = some (.if_icmp .ge 388, 368) := by decide +kernel
theorem z96_368 : jcd 96 368 = some (.aload 0, 369) := by decide +kernel
theorem z96_369 : jcd 96 369 = some (.getfield 54, 372) := by decide +kernel
theorem z96_372 : jcd 96 372 = some (.iload 8, 374) := by decide +kernel
theorem z96_374 : jcd 96 374 = some (.aload 0, 375) := by decide +kernel
theorem z96_375 : jcd 96 375 = some (.getfield 57, 378) := by decide +kernel
theorem z96_378 : jcd 96 378 = some (.iload 8, 380) := by decide +kernel
theorem z96_380 : jcd 96 380 = some (.iaload, 381) := by decide +kernel
theorem z96_381 : jcd 96 381 = some (.iastore, 382) := by decide +kernel
theorem z96_382 : jcd 96 382 = some (.iinc 8 1, 385) := by decide +kernel
theorem z96_385 : jcd 96 385 = some (.goto 361, 388) := by decide +kernel
theorem z96_388 : jcd 96 388 = some (.iload 6, 390) := by decide +kernel
theorem z96_390 : jcd 96 390 = some (.ireturn, 391) := by decide +kernel
theorem z97_0 : jcd 97 0 = some (.aload 0, 1) := by decide +kernel
theorem z97_1 : jcd 97 1 = some (.iload 1, 2) := by decide +kernel
theorem z97_2 : jcd 97 2 = some (.iconst 0, 3) := by decide +kernel
theorem z97_3 : jcd 97 3 = some (.aload 0, 4) := by decide +kernel
theorem z97_4 : jcd 97 4 = some (.getfield 144, 7) := by decide +kernel
theorem z97_7 : jcd 97 7 = some (.iconst 1, 8) := by decide +kernel
theorem z97_8 : jcd 97 8 = some (.isub, 9) := by decide +kernel
theorem z97_9 : jcd 97 9 = some (.invokestatic 78, 12) := by decide +kernel
theorem z97_12 : jcd 97 12 = some (.ifCond .ne 19, 15) := by decide +kernel
theorem z97_15 : jcd 97 15 = some (.iconst 1, 16) := by decide +kernel
theorem z97_16 : jcd 97 16 = some (.goto 20, 19) := by decide +kernel
theorem z97_19 : jcd 97 19 = some (.iconst 0, 20) := by decide +kernel
theorem z97_20 : jcd 97 20 = some (.iconst 0, 21) := by decide +kernel
theorem z97_21 : jcd 97 21 = some (.iconst 0, 22) := by decide +kernel
theorem z97_22 : jcd 97 22 = some (.iconst 0, 23) := by decide +kernel
theorem z97_23 : jcd 97 23 = some (.invokevirtual 86, 26) := by decide +kernel
theorem z97_26 : jcd 97 26 = some (.ifCond .eq 31, 29) := by decide +kernel
theorem z97_29 : jcd 97 29 = some (.iconst 0, 30) := by decide +kernel
theorem z97_30 : jcd 97 30 = some (.ireturn, 31) := by decide +kernel
theorem z97_31 : jcd 97 31 = some (.aload 0, 32) := by decide +kernel
theorem z97_32 : jcd 97 32 = some (.getfield 54, 35) := by decide +kernel
theorem z97_35 : jcd 97 35 = some (.iload 1, 36) := by decide +kernel
theorem z97_36 : jcd 97 36 = some (.iaload, 37) := by decide +kernel
theorem z97_37 : jcd 97 37 = some (.ireturn, 38) := by decide +kernel
theorem z98_0 : jcd 98 0 = some (.aload 0, 1) := by decide +kernel
theorem z98_1 : jcd 98 1 = some (.aload 0, 2) := by decide +kernel
theorem z98_2 : jcd 98 2 = some (.iload 1, 3) := by decide +kernel
theorem z98_3 : jcd 98 3 = some (.invokevirtual 82, 6) := by decide +kernel
theorem z98_6 : jcd 98 6 = some (.ifCond .ne 13, 9) := by decide +kernel
theorem z98_9 : jcd 98 9 = some (.iconst 1, 10) := by decide +kernel
theorem z98_10 : jcd 98 10 = some (.goto 14, 13) := by decide +kernel
theorem z98_13 : jcd 98 13 = some (.iconst 0, 14) := by decide +kernel
theorem z98_14 : jcd 98 14 = some (.iload 2, 15) := by decide +kernel
theorem z98_15 : jcd 98 15 = some (.ifCond .ge 22, 18) := by decide +kernel
theorem z98_18 : jcd 98 18 = some (.iconst 1, 19) := by decide +kernel
theorem z98_19 : jcd 98 19 = some (.goto 23, 22) := by decide +kernel
theorem z98_22 : jcd 98 22 = some (.iconst 0, 23) := by decide +kernel
theorem z98_23 : jcd 98 23 = some (.iconst 0, 24) := by decide +kernel
theorem z98_24 : jcd 98 24 = some (.iconst 0, 25) := by decide +kernel
theorem z98_25 : jcd 98 25 = some (.invokevirtual 86, 28) := by decide +kernel
theorem z98_28 : jcd 98 28 = some (.ifCond .eq 33, 31) := by decide +kernel
theorem z98_31 : jcd 98 31 = some (.iconst 0, 32) := by decide +kernel
theorem z98_32 : jcd 98 32 = some (.ireturn, 33) := by decide +kernel
theorem z98_33 : jcd 98 33 = some (.iload 2, 34) := by decide +kernel
theorem z98_34 : jcd 98 34 = some (.istore 3, 35) := by decide +kernel
theorem z98_35 : jcd 98 35 = some (.iconst 0, 36) := by decide +kernel
theorem z98_36 : jcd 98 36 = some (.istore 4, 38) := by decide +kernel
theorem z98_38 : jcd 98 38 = some (.iload 4, 40) := by decide +kernel
theorem z98_40 : jcd 98 40 = some (.bipush 20, 42) := by decide +kernel
theorem z98_42 : jcd 98 42 = some (.if_icmp .ge 103, 45) := by decide +kernel
theorem z98_45 : jcd 98 45 = some (.aload 0, 46) := by decide +kernel
theorem z98_46 : jcd 98 46 = some (.iload 4, 48) := by decide +kernel
theorem z98_48 : jcd 98 48 = some (.iload 1, 49) := by decide +kernel
theorem z98_49 : jcd 98 49 = some (.aload 0, 50) := by decide +kernel
theorem z98_50 : jcd 98 50 = some (.getfield 94, 53) := by decide +kernel
theorem z98_53 : jcd 98 53 = some (.invokevirtual 108, 56) := by decide +kernel
theorem z98_56 : jcd 98 56 = some (.ifCond .eq 97, 59) := by decide +kernel
theorem z98_59 : jcd 98 59 = some (.aload 0, 60) := by decide +kernel
theorem z98_60 : jcd 98 60 = some (.aload 0, 61) := by decide +kernel
theorem z98_61 : jcd 98 61 = some (.iload 4, 63) := by decide +kernel
theorem z98_63 : jcd 98 63 = some (.iload 1, 64) := by decide +kernel
theorem z98_64 : jcd 98 64 = some (.aload 0, 65) := by decide +kernel
theorem z98_65 : jcd 98 65 = some (.getfield 94, 68) := by decide +kernel
theorem z98_68 : jcd 98 68 = some (.invokevirtual 100, 71) := by decide +kernel
theorem z98_71 : jcd 98 71 = some (.aload 0, 72) := by decide +kernel
theorem z98_72 : jcd 98 72 = some (.getfield 94, 75) := by decide +kernel
theorem z98_75 : jcd 98 75 = some (.invokevirtual 104, 78) := by decide +kernel
theorem z98_78 : jcd 98 78 = some (.aload 0, 79) := by decide +kernel
theorem z98_79 : jcd 98 79 = some (.getfield 94, 82) := by decide +kernel
theorem z98_82 : jcd 98 82 = some (.iconst 1, 83) := by decide +kernel
theorem z98_83 : jcd 98 83 = some (.iadd, 84) := by decide +kernel
theorem z98_84 : jcd 98 84 = some (.if_icmp .ne 97, 87) := by decide +kernel
theorem z98_87 : jcd 98 87 = some (.iload 3, 88) := by decide +kernel
theorem z98_88 : jcd 98 88 = some (.ifCond .ne 94, 91) := by decide +kernel
theorem z98_91 : jcd 98 91 = some (.iload 4, 93) := by decide +kernel
theorem z98_93 : jcd 98 93 = some (.ireturn, 94) := by decide +kernel
theorem z98_94 : jcd 98 94 = some (.iinc 3 (-1), 97) := by decide +kernel
theorem z98_97 : jcd 98 97 = some (.iinc 4 1, 100) := by decide +kernel
theorem z98_100 : jcd 98 100 = some (.goto 38, 103) := by decide +kernel
theorem z98_103 : jcd 98 103 = some (.iconst (-1), 104) := by decide +kernel
theorem z98_104 : jcd 98 104 = some (.ireturn, 105) := by decide +kernel
theorem z99_0 : jcd 99 0 = some (.aload 0, 1) := by decide +kernel
theorem z99_1 : jcd 99 1 = some (.iload 1, 2) := by decide +kernel
theorem z99_2 : jcd 99 2 = some (.iconst 0, 3) := by decide +kernel
theorem z99_3 : jcd 99 3 = some (.iconst 3, 4) := by decide +kernel
theorem z99_4 : jcd 99 4 = some (.invokestatic 78, 7) := by decide +kernel
theorem z99_7 : jcd 99 7 = some (.ifCond .ne 14, 10) := by decide +kernel
theorem z99_10 : jcd 99 10 = some (.iconst 1, 11) := by decide +kernel
theorem z99_11 : jcd 99 11 = some (.goto 15, 14) := by decide +kernel
theorem z99_14 : jcd 99 14 = some (.iconst 0, 15) := by decide +kernel
theorem z99_15 : jcd 99 15 = some (.iconst 0, 16) := by decide +kernel
theorem z99_16 : jcd 99 16 = some (.iconst 0, 17) := by decide +kernel
theorem z99_17 : jcd 99 17 = some (.iconst 0, 18) := by decide +kernel
theorem z99_18 : jcd 99 18 = some (.invokevirtual 86, 21) := by decide +kernel
theorem z99_21 : jcd 99 21 = some (.ifCond .eq 26, 24) := by decide +kernel
theorem z99_24 : jcd 99 24 = some (.iconst 0, 25) := by decide +kernel
theorem z99_25 : jcd 99 25 = some (.ireturn, 26) := by decide +kernel
theorem z99_26 : jcd 99 26 = some (.iconst 0, 27) := by decide +kernel
theorem z99_27 : jcd 99 27 = some (.istore 2, 28) := by decide +kernel
theorem z99_28 : jcd 99 28 = some (.iconst 0, 29) := by decide +kernel
theorem z99_29 : jcd 99 29 = some (.istore 3, 30) := by decide +kernel
theorem z99_30 : jcd 99 30 = some (.iload 3, 31) := by decide +kernel
theorem z99_31 : jcd 99 31 = some (.aload 0, 32) := by decide +kernel
theorem z99_32 : jcd 99 32 = some (.getfield 97, 35) := by decide +kernel
theorem z99_35 : jcd 99 35 = some (.if_icmp .ge 61, 38) := by decide +kernel
theorem z99_38 : jcd 99 38 = some (.iload 2, 39) := by decide +kernel
theorem z99_39 : jcd 99 39 = some (.aload 0, 40) := by decide +kernel
theorem z99_40 : jcd 99 40 = some (.getfield 42, 43) := by decide +kernel
theorem z99_43 : jcd 99 43 = some (.iload 3, 44) := by decide +kernel
theorem z99_44 : jcd 99 44 = some (.baload, 45) := by decide +kernel
theorem z99_45 : jcd 99 45 = some (.ifCond .eq 52, 48) := by decide +kernel
theorem z99_48 : jcd 99 48 = some (.iconst 1, 49) := by decide +kernel
theorem z99_49 : jcd 99 49 = some (.goto 53, 52) := by decide +kernel
theorem z99_52 : jcd 99 52 = some (.iconst 0, 53) := by decide +kernel
theorem z99_53 : jcd 99 53 = some (.iadd, 54) := by decide +kernel
theorem z99_54 : jcd 99 54 = some (.istore 2, 55) := by decide +kernel
theorem z99_55 : jcd 99 55 = some (.iinc 3 1, 58) := by decide +kernel
theorem z99_58 : jcd 99 58 = some (.goto 30, 61) := by decide +kernel
theorem z99_61 : jcd 99 61 = some (.iconst 0, 62) := by decide +kernel
theorem z99_62 : jcd 99 62 = some (.istore 3, 63) := by decide +kernel
theorem z99_63 : jcd 99 63 = some (.iconst 0, 64) := by decide +kernel
theorem z99_64 : jcd 99 64 = some (.istore 4, 66) := by decide +kernel
theorem z99_66 : jcd 99 66 = some (.iload 4, 68) := by decide +kernel
theorem z99_68 : jcd 99 68 = some (.aload 0, 69) := by decide +kernel
theorem z99_69 : jcd 99 69 = some (.getfield 75, 72) := by decide +kernel
theorem z99_72 : jcd 99 72 = some (.if_icmp .ge 116, 75) := by decide +kernel
theorem z99_75 : jcd 99 75 = some (.iconst 0, 76) := by decide +kernel
theorem z99_76 : jcd 99 76 = some (.istore 5, 78) := by decide +kernel
theorem z99_78 : jcd 99 78 = some (.iload 5, 80) := by decide +kernel
theorem z99_80 : jcd 99 80 = some (.bipush 20, 82) := by decide +kernel
theorem z99_82 : jcd 99 82 = some (.if_icmp .ge 110, 85) := by decide +kernel
theorem z99_85 : jcd 99 85 = some (.iload 3, 86) := by decide +kernel
theorem z99_86 : jcd 99 86 = some (.aload 0, 87) := by decide +kernel
theorem z99_87 : jcd 99 87 = some (.iload 5, 89) := by decide +kernel
theorem z99_89 : jcd 99 89 = some (.iload 4, 91) := by decide +kernel
theorem z99_91 : jcd 99 91 = some (.invokevirtual 117, 94) := by decide +kernel
theorem z99_94 : jcd 99 94 = some (.ifCond .eq 101, 97) := by decide +kernel
theorem z99_97 : jcd 99 97 = some (.iconst 1, 98) := by decide +kernel
theorem z99_98 : jcd 99 98 = some (.goto 102, 101) := by decide +kernel
theorem z99_101 : jcd 99 101 = some (.iconst 0, 102) := by decide +kernel
theorem z99_102 : jcd 99 102 = some (.iadd, 103) := by decide +kernel
theorem z99_103 : jcd 99 103 = some (.istore 3, 104) := by decide +kernel
theorem z99_104 : jcd 99 104 = some (.iinc 5 1, 107) := by decide +kernel
theorem z99_107 : jcd 99 107 = some (.goto 78, 110) := by decide +kernel
theorem z99_110 : jcd 99 110 = some (.iinc 4 1, 113) := by decide +kernel
theorem z99_113 : jcd 99 113 = some (.goto 66, 116) := by decide +kernel
theorem z99_116 : jcd 99 116 = some (.iload 1, 117) := by decide +kernel
theorem z99_117 : jcd 99 117 = some (.ifCond .ne 127, 120) := by decide +kernel
theorem z99_120 : jcd 99 120 = some (.aload 0, 121) := by decide +kernel
theorem z99_121 : jcd 99 121 = some (.getfield 75, 124) := by decide +kernel
theorem z99_124 : jcd 99 124 = some (.goto 149, 127) := by decide +kernel
theorem z99_127 : jcd 99 127 = some (.iload 1, 128) := by decide +kernel
theorem z99_128 : jcd 99 128 = some (.iconst 1, 129) := by decide +kernel
theorem z99_129 : jcd 99 129 = some (.if_icmp .ne 139, 132) := by decide +kernel
theorem z99_132 : jcd 99 132 = some (.aload 0, 133) := by decide +kernel
theorem z99_133 : jcd 99 133 = some (.getfield 97, 136) := by decide +kernel
theorem z99_136 : jcd 99 136 = some (.goto 149, 139) := by decide +kernel
theorem z99_139 : jcd 99 139 = some (.iload 1, 140) := by decide +kernel
theorem z99_140 : jcd 99 140 = some (.iconst 2, 141) := by decide +kernel
theorem z99_141 : jcd 99 141 = some (.if_icmp .ne 148, 144) := by decide +kernel
theorem z99_144 : jcd 99 144 = some (.iload 2, 145) := by decide +kernel
theorem z99_145 : jcd 99 145 = some (.goto 149, 148) := by decide +kernel
theorem z99_148 : jcd 99 148 = some (.iload 3, 149) := by decide +kernel
theorem z99_149 : jcd 99 149 = some (.ireturn, 150) := by decide +kernel
end
section
theorem z100_0 : jcd 100 0 = some (.aload 4, 2) := by decide +kernel
theorem z100_2 : jcd 100 2 = some (.iconst 0, 3) := by decide +kernel
theorem z100_3 : jcd 100 3 = some (.aload 0, 4) := by decide +kernel
theorem z100_4 : jcd 100 4 = some (.iload 1, 5) := by decide +kernel
theorem z100_5 : jcd 100 5 = some (.iload 2, 6) := by decide +kernel
theorem z100_6 : jcd 100 6 = some (.iload 3, 7) := by decide +kernel
theorem z100_7 : jcd 100 7 = some (.invokevirtual 7, 10) := by decide +kernel
theorem z100_10 : jcd 100 10 = some (.i2l, 11) := by decide +kernel
theorem z100_11 : jcd 100 11 = some (.lastore, 12) := by decide +kernel
theorem z100_12 : jcd 100 12 = some (.goto 23, 15) := by decide +kernel
theorem z100_15 : jcd 100 15 = some (.astore 5, 17) := by decide +kernel
theorem z100_17 : jcd 100 17 = some (.iconst 1, 18) := by decide +kernel
theorem z100_18 : jcd 100 18 = some (.ireturn, 19) := by decide +kernel
theorem z100_19 : jcd 100 19 = some (.astore 5, 21) := by decide +kernel
theorem z100_21 : jcd 100 21 = some (.iconst 2, 22) := by decide +kernel
theorem z100_22 : jcd 100 22 = some (.ireturn, 23) := by decide +kernel
theorem z100_23 : jcd 100 23 = some (.iconst 0, 24) := by decide +kernel
theorem z100_24 : jcd 100 24 = some (.ireturn, 25) := by decide +kernel
theorem z101_0 : jcd 101 0 = some (.aload 0, 1) := by decide +kernel
theorem z101_1 : jcd 101 1 = some (.iload 1, 2) := by decide +kernel
theorem z101_2 : jcd 101 2 = some (.iload 2, 3) := by decide +kernel
theorem z101_3 : jcd 101 3 = some (.invokevirtual 17, 6) := by decide +kernel
theorem z101_6 : jcd 101 6 = some (.goto 15, 9) := by decide +kernel
theorem z101_9 : jcd 101 9 = some (.astore 3, 10) := by decide +kernel
theorem z101_10 : jcd 101 10 = some (.iconst 1, 11) := by decide +kernel
theorem z101_11 : jcd 101 11 = some (.ireturn, 12) := by decide +kernel
theorem z101_12 : jcd 101 12 = some (.astore 3, 13) := by decide +kernel
theorem z101_13 : jcd 101 13 = some (.iconst 2, 14) := by decide +kernel
theorem z101_14 : jcd 101 14 = some (.ireturn, 15) := by decide +kernel
theorem z101_15 : jcd 101 15 = some (.iconst 0, 16) := by decide +kernel
theorem z101_16 : jcd 101 16 = some (.ireturn, 17) := by decide +kernel
theorem z102_0 : jcd 102 0 = some (.aload 0, 1) := by decide +kernel
theorem z102_1 : jcd 102 1 = some (.iload 1, 2) := by decide +kernel
theorem z102_2 : jcd 102 2 = some (.invokevirtual 25, 5) := by decide +kernel
theorem z102_5 : jcd 102 5 = some (.goto 11, 8) := by decide +kernel
theorem z102_8 : jcd 102 8 = some (.astore 2, 9) := by decide +kernel
theorem z102_9 : jcd 102 9 = some (.iconst 1, 10) := by decide +kernel
theorem z102_10 : jcd 102 10 = some (.ireturn, 11) := by decide +kernel
theorem z102_11 : jcd 102 11 = some (.iconst 0, 12) := by decide +kernel
theorem z102_12 : jcd 102 12 = some (.ireturn, 13) := by decide +kernel
theorem z103_0 : jcd 103 0 = some (.aload 0, 1) := by decide +kernel
theorem z103_1 : jcd 103 1 = some (.iload 1, 2) := by decide +kernel
theorem z103_2 : jcd 103 2 = some (.invokevirtual 29, 5) := by decide +kernel
theorem z103_5 : jcd 103 5 = some (.goto 11, 8) := by decide +kernel
theorem z103_8 : jcd 103 8 = some (.astore 2, 9) := by decide +kernel
theorem z103_9 : jcd 103 9 = some (.iconst 1, 10) := by decide +kernel
theorem z103_10 : jcd 103 10 = some (.ireturn, 11) := by decide +kernel
theorem z103_11 : jcd 103 11 = some (.iconst 0, 12) := by decide +kernel
theorem z103_12 : jcd 103 12 = some (.ireturn, 13) := by decide +kernel
theorem z104_0 : jcd 104 0 = some (.aload 0, 1) := by decide +kernel
theorem z104_1 : jcd 104 1 = some (.iload 1, 2) := by decide +kernel
theorem z104_2 : jcd 104 2 = some (.iload 2, 3) := by decide +kernel
theorem z104_3 : jcd 104 3 = some (.invokevirtual 32, 6) := by decide +kernel
theorem z104_6 : jcd 104 6 = some (.goto 15, 9) := by decide +kernel
theorem z104_9 : jcd 104 9 = some (.astore 3, 10) := by decide +kernel
theorem z104_10 : jcd 104 10 = some (.iconst 1, 11) := by decide +kernel
theorem z104_11 : jcd 104 11 = some (.ireturn, 12) := by decide +kernel
theorem z104_12 : jcd 104 12 = some (.astore 3, 13) := by decide +kernel
theorem z104_13 : jcd 104 13 = some (.iconst 2, 14) := by decide +kernel
theorem z104_14 : jcd 104 14 = some (.ireturn, 15) := by decide +kernel
theorem z104_15 : jcd 104 15 = some (.iconst 0, 16) := by decide +kernel
theorem z104_16 : jcd 104 16 = some (.ireturn, 17) := by decide +kernel
theorem z105_0 : jcd 105 0 = some (.aload 4, 2) := by decide +kernel
theorem z105_2 : jcd 105 2 = some (.iconst 0, 3) := by decide +kernel
theorem z105_3 : jcd 105 3 = some (.aload 0, 4) := by decide +kernel
theorem z105_4 : jcd 105 4 = some (.iload 1, 5) := by decide +kernel
theorem z105_5 : jcd 105 5 = some (.iload 2, 6) := by decide +kernel
theorem z105_6 : jcd 105 6 = some (.iload 3, 7) := by decide +kernel
theorem z105_7 : jcd 105 7 = some (.invokevirtual 35, 10) := by decide +kernel
theorem z105_10 : jcd 105 10 = some (.i2l, 11) := by decide +kernel
theorem z105_11 : jcd 105 11 = some (.lastore, 12) := by decide +kernel
theorem z105_12 : jcd 105 12 = some (.goto 31, 15) := by decide +kernel
theorem z105_15 : jcd 105 15 = some (.astore 5, 17) := by decide +kernel
theorem z105_17 : jcd 105 17 = some (.iconst 1, 18) := by decide +kernel
theorem z105_18 : jcd 105 18 = some (.ireturn, 19) := by decide +kernel
theorem z105_19 : jcd 105 19 = some (.astore 5, 21) := by decide +kernel
theorem z105_21 : jcd 105 21 = some (.iconst 2, 22) := by decide +kernel
theorem z105_22 : jcd 105 22 = some (.ireturn, 23) := by decide +kernel
theorem z105_23 : jcd 105 23 = some (.astore 5, 25) := by decide +kernel
theorem z105_25 : jcd 105 25 = some (.iconst 3, 26) := by decide +kernel
theorem z105_26 : jcd 105 26 = some (.ireturn, 27) := by decide +kernel
theorem z105_27 : jcd 105 27 = some (.astore 5, 29) := by decide +kernel
theorem z105_29 : jcd 105 29 = some (.iconst 4, 30) := by decide +kernel
theorem z105_30 : jcd 105 30 = some (.ireturn, 31) := by decide +kernel
theorem z105_31 : jcd 105 31 = some (.iconst 0, 32) := by decide +kernel
theorem z105_32 : jcd 105 32 = some (.ireturn, 33) := by decide +kernel
theorem z106_0 : jcd 106 0 = some (.aload 3, 1) := by decide +kernel
theorem z106_1 : jcd 106 1 = some (.iconst 0, 2) := by decide +kernel
theorem z106_2 : jcd 106 2 = some (.aload 0, 3) := by decide +kernel
theorem z106_3 : jcd 106 3 = some (.iload 1, 4) := by decide +kernel
theorem z106_4 : jcd 106 4 = some (.iload 2, 5) := by decide +kernel
theorem z106_5 : jcd 106 5 = some (.invokevirtual 38, 8) := by decide +kernel
theorem z106_8 : jcd 106 8 = some (.i2l, 9) := by decide +kernel
theorem z106_9 : jcd 106 9 = some (.lastore, 10) := by decide +kernel
theorem z106_10 : jcd 106 10 = some (.goto 25, 13) := by decide +kernel
theorem z106_13 : jcd 106 13 = some (.astore 4, 15) := by decide +kernel
theorem z106_15 : jcd 106 15 = some (.iconst 1, 16) := by decide +kernel
theorem z106_16 : jcd 106 16 = some (.ireturn, 17) := by decide +kernel
theorem z106_17 : jcd 106 17 = some (.astore 4, 19) := by decide +kernel
theorem z106_19 : jcd 106 19 = some (.iconst 2, 20) := by decide +kernel
theorem z106_20 : jcd 106 20 = some (.ireturn, 21) := by decide +kernel
theorem z106_21 : jcd 106 21 = some (.astore 4, 23) := by decide +kernel
theorem z106_23 : jcd 106 23 = some (.iconst 3, 24) := by decide +kernel
theorem z106_24 : jcd 106 24 = some (.ireturn, 25) := by decide +kernel
theorem z106_25 : jcd 106 25 = some (.iconst 0, 26) := by decide +kernel
theorem z106_26 : jcd 106 26 = some (.ireturn, 27) := by decide +kernel
theorem z107_0 : jcd 107 0 = some (.aload 0, 1) := by decide +kernel
theorem z107_1 : jcd 107 1 = some (.iload 1, 2) := by decide +kernel
theorem z107_2 : jcd 107 2 = some (.iload 2, 3) := by decide +kernel
theorem z107_3 : jcd 107 3 = some (.iload 3, 4) := by decide +kernel
theorem z107_4 : jcd 107 4 = some (.invokevirtual 42, 7) := by decide +kernel
theorem z107_7 : jcd 107 7 = some (.goto 18, 10) := by decide +kernel
theorem z107_10 : jcd 107 10 = some (.astore 4, 12) := by decide +kernel
theorem z107_12 : jcd 107 12 = some (.iconst 1, 13) := by decide +kernel
theorem z107_13 : jcd 107 13 = some (.ireturn, 14) := by decide +kernel
theorem z107_14 : jcd 107 14 = some (.astore 4, 16) := by decide +kernel
theorem z107_16 : jcd 107 16 = some (.iconst 2, 17) := by decide +kernel
theorem z107_17 : jcd 107 17 = some (.ireturn, 18) := by decide +kernel
theorem z107_18 : jcd 107 18 = some (.iconst 0, 19) := by decide +kernel
theorem z107_19 : jcd 107 19 = some (.ireturn, 20) := by decide +kernel
theorem z108_0 : jcd 108 0 = some (.aload 3, 1) := by decide +kernel
theorem z108_1 : jcd 108 1 = some (.iconst 0, 2) := by decide +kernel
theorem z108_2 : jcd 108 2 = some (.aload 0, 3) := by decide +kernel
theorem z108_3 : jcd 108 3 = some (.iload 1, 4) := by decide +kernel
theorem z108_4 : jcd 108 4 = some (.iload 2, 5) := by decide +kernel
theorem z108_5 : jcd 108 5 = some (.invokevirtual 46, 8) := by decide +kernel
theorem z108_8 : jcd 108 8 = some (.i2l, 9) := by decide +kernel
theorem z108_9 : jcd 108 9 = some (.lastore, 10) := by decide +kernel
theorem z108_10 : jcd 108 10 = some (.goto 21, 13) := by decide +kernel
theorem z108_13 : jcd 108 13 = some (.astore 4, 15) := by decide +kernel
theorem z108_15 : jcd 108 15 = some (.iconst 1, 16) := by decide +kernel
theorem z108_16 : jcd 108 16 = some (.ireturn, 17) := by decide +kernel
theorem z108_17 : jcd 108 17 = some (.astore 4, 19) := by decide +kernel
theorem z108_19 : jcd 108 19 = some (.iconst 2, 20) := by decide +kernel
theorem z108_20 : jcd 108 20 = some (.ireturn, 21) := by decide +kernel
theorem z108_21 : jcd 108 21 = some (.iconst 0, 22) := by decide +kernel
theorem z108_22 : jcd 108 22 = some (.ireturn, 23) := by decide +kernel
theorem z109_0 : jcd 109 0 = some (.aload 4, 2) := by decide +kernel
theorem z109_2 : jcd 109 2 = some (.iconst 0, 3) := by decide +kernel
theorem z109_3 : jcd 109 3 = some (.aload 0, 4) := by decide +kernel
theorem z109_4 : jcd 109 4 = some (.iload 1, 5) := by decide +kernel
theorem z109_5 : jcd 109 5 = some (.iload 2, 6) := by decide +kernel
theorem z109_6 : jcd 109 6 = some (.iload 3, 7) := by decide +kernel
theorem z109_7 : jcd 109 7 = some (.invokevirtual 49, 10) := by decide +kernel
theorem z109_10 : jcd 109 10 = some (.ifCond .eq 17, 13) := by decide +kernel
theorem z109_13 : jcd 109 13 = some (.lconst 1, 14) := by decide +kernel
theorem z109_14 : jcd 109 14 = some (.goto 18, 17) := by decide +kernel
theorem z109_17 : jcd 109 17 = some (.lconst 0, 18) := by decide +kernel
theorem z109_18 : jcd 109 18 = some (.lastore, 19) := by decide +kernel
theorem z109_19 : jcd 109 19 = some (.goto 30, 22) := by decide +kernel
theorem z109_22 : jcd 109 22 = some (.astore 5, 24) := by decide +kernel
theorem z109_24 : jcd 109 24 = some (.iconst 1, 25) := by decide +kernel
theorem z109_25 : jcd 109 25 = some (.ireturn, 26) := by decide +kernel
theorem z109_26 : jcd 109 26 = some (.astore 5, 28) := by decide +kernel
theorem z109_28 : jcd 109 28 = some (.iconst 2, 29) := by decide +kernel
theorem z109_29 : jcd 109 29 = some (.ireturn, 30) := by decide +kernel
theorem z109_30 : jcd 109 30 = some (.iconst 0, 31) := by decide +kernel
theorem z109_31 : jcd 109 31 = some (.ireturn, 32) := by decide +kernel
theorem z110_0 : jcd 110 0 = some (.aload 3, 1) := by decide +kernel
theorem z110_1 : jcd 110 1 = some (.iconst 0, 2) := by decide +kernel
theorem z110_2 : jcd 110 2 = some (.aload 0, 3) := by decide +kernel
theorem z110_3 : jcd 110 3 = some (.iload 1, 4) := by decide +kernel
theorem z110_4 : jcd 110 4 = some (.iload 2, 5) := by decide +kernel
theorem z110_5 : jcd 110 5 = some (.invokevirtual 53, 8) := by decide +kernel
theorem z110_8 : jcd 110 8 = some (.i2l, 9) := by decide +kernel
theorem z110_9 : jcd 110 9 = some (.lastore, 10) := by decide +kernel
theorem z110_10 : jcd 110 10 = some (.goto 17, 13) := by decide +kernel
theorem z110_13 : jcd 110 13 = some (.astore 4, 15) := by decide +kernel
theorem z110_15 : jcd 110 15 = some (.iconst 1, 16) := by decide +kernel
theorem z110_16 : jcd 110 16 = some (.ireturn, 17) := by decide +kernel
theorem z110_17 : jcd 110 17 = some (.iconst 0, 18) := by decide +kernel
theorem z110_18 : jcd 110 18 = some (.ireturn, 19) := by decide +kernel
theorem z111_0 : jcd 111 0 = some (.aload 3, 1) := by decide +kernel
theorem z111_1 : jcd 111 1 = some (.iconst 0, 2) := by decide +kernel
theorem z111_2 : jcd 111 2 = some (.aload 0, 3) := by decide +kernel
theorem z111_3 : jcd 111 3 = some (.iload 1, 4) := by decide +kernel
theorem z111_4 : jcd 111 4 = some (.iload 2, 5) := by decide +kernel
theorem z111_5 : jcd 111 5 = some (.invokevirtual 56, 8) := by decide +kernel
theorem z111_8 : jcd 111 8 = some (.i2l, 9) := by decide +kernel
theorem z111_9 : jcd 111 9 = some (.lastore, 10) := by decide +kernel
theorem z111_10 : jcd 111 10 = some (.goto 17, 13) := by decide +kernel
theorem z111_13 : jcd 111 13 = some (.astore 4, 15) := by decide +kernel
theorem z111_15 : jcd 111 15 = some (.iconst 1, 16) := by decide +kernel
theorem z111_16 : jcd 111 16 = some (.ireturn, 17) := by decide +kernel
theorem z111_17 : jcd 111 17 = some (.iconst 0, 18) := by decide +kernel
theorem z111_18 : jcd 111 18 = some (.ireturn, 19) := by decide +kernel
theorem z112_0 : jcd 112 0 = some (.aload 3, 1) := by decide +kernel
theorem z112_1 : jcd 112 1 = some (.iconst 0, 2) := by decide +kernel
theorem z112_2 : jcd 112 2 = some (.aload 0, 3) := by decide +kernel
theorem z112_3 : jcd 112 3 = some (.iload 1, 4) := by decide +kernel
theorem z112_4 : jcd 112 4 = some (.iload 2, 5) := by decide +kernel
theorem z112_5 : jcd 112 5 = some (.invokevirtual 59, 8) := by decide +kernel
theorem z112_8 : jcd 112 8 = some (.i2l, 9) := by decide +kernel
theorem z112_9 : jcd 112 9 = some (.lastore, 10) := by decide +kernel
theorem z112_10 : jcd 112 10 = some (.goto 17, 13) := by decide +kernel
theorem z112_13 : jcd 112 13 = some (.astore 4, 15) := by decide +kernel
theorem z112_15 : jcd 112 15 = some (.iconst 1, 16) := by decide +kernel
theorem z112_16 : jcd 112 16 = some (.ireturn, 17) := by decide +kernel
theorem z112_17 : jcd 112 17 = some (.iconst 0, 18) := by decide +kernel
theorem z112_18 : jcd 112 18 = some (.ireturn, 19) := by decide +kernel
theorem z113_0 : jcd 113 0 = some (.aload 2, 1) := by decide +kernel
theorem z113_1 : jcd 113 1 = some (.iconst 0, 2) := by decide +kernel
theorem z113_2 : jcd 113 2 = some (.aload 0, 3) := by decide +kernel
theorem z113_3 : jcd 113 3 = some (.iload 1, 4) := by decide +kernel
theorem z113_4 : jcd 113 4 = some (.invokevirtual 62, 7) := by decide +kernel
theorem z113_7 : jcd 113 7 = some (.i2l, 8) := by decide +kernel
theorem z113_8 : jcd 113 8 = some (.lastore, 9) := by decide +kernel
theorem z113_9 : jcd 113 9 = some (.goto 15, 12) := by decide +kernel
theorem z113_12 : jcd 113 12 = some (.astore 3, 13) := by decide +kernel
theorem z113_13 : jcd 113 13 = some (.iconst 1, 14) := by decide +kernel
theorem z113_14 : jcd 113 14 = some (.ireturn, 15) := by decide +kernel
theorem z113_15 : jcd 113 15 = some (.iconst 0, 16) := by decide +kernel
theorem z113_16 : jcd 113 16 = some (.ireturn, 17) := by decide +kernel
theorem z114_0 : jcd 114 0 = some (.aload 5, 2) := by decide +kernel
theorem z114_2 : jcd 114 2 = some (.iconst 0, 3) := by decide +kernel
theorem z114_3 : jcd 114 3 = some (.aload 0, 4) := by decide +kernel
theorem z114_4 : jcd 114 4 = some (.lload 1, 5) := by decide +kernel
theorem z114_5 : jcd 114 5 = some (.iload 3, 6) := by decide +kernel
theorem z114_6 : jcd 114 6 = some (.iload 4, 8) := by decide +kernel
theorem z114_8 : jcd 114 8 = some (.invokevirtual 66, 11) := by decide +kernel
theorem z114_11 : jcd 114 11 = some (.i2l, 12) := by decide +kernel
theorem z114_12 : jcd 114 12 = some (.lastore, 13) := by decide +kernel
theorem z114_13 : jcd 114 13 = some (.goto 24, 16) := by decide +kernel
theorem z114_16 : jcd 114 16 = some (.astore 6, 18) := by decide +kernel
theorem z114_18 : jcd 114 18 = some (.iconst 1, 19) := by decide +kernel
theorem z114_19 : jcd 114 19 = some (.ireturn, 20) := by decide +kernel
theorem z114_20 : jcd 114 20 = some (.astore 6, 22) := by decide +kernel
theorem z114_22 : jcd 114 22 = some (.iconst 2, 23) := by decide +kernel
theorem z114_23 : jcd 114 23 = some (.ireturn, 24) := by decide +kernel
theorem z114_24 : jcd 114 24 = some (.iconst 0, 25) := by decide +kernel
theorem z114_25 : jcd 114 25 = some (.ireturn, 26) := by decide +kernel
theorem z115_0 : jcd 115 0 = some (.aload 2, 1) := by decide +kernel
theorem z115_1 : jcd 115 1 = some (.iconst 0, 2) := by decide +kernel
theorem z115_2 : jcd 115 2 = some (.aload 0, 3) := by decide +kernel
theorem z115_3 : jcd 115 3 = some (.iload 1, 4) := by decide +kernel
theorem z115_4 : jcd 115 4 = some (.invokevirtual 70, 7) := by decide +kernel
theorem z115_7 : jcd 115 7 = some (.i2l, 8) := by decide +kernel
theorem z115_8 : jcd 115 8 = some (.lastore, 9) := by decide +kernel
theorem z115_9 : jcd 115 9 = some (.goto 15, 12) := by decide +kernel
theorem z115_12 : jcd 115 12 = some (.astore 3, 13) := by decide +kernel
theorem z115_13 : jcd 115 13 = some (.iconst 1, 14) := by decide +kernel
theorem z115_14 : jcd 115 14 = some (.ireturn, 15) := by decide +kernel
theorem z115_15 : jcd 115 15 = some (.iconst 0, 16) := by decide +kernel
theorem z115_16 : jcd 115 16 = some (.ireturn, 17) := by decide +kernel
theorem z116_0 : jcd 116 0 = some (.aload 3, 1) := by decide +kernel
theorem z116_1 : jcd 116 1 = some (.iconst 0, 2) := by decide +kernel
theorem z116_2 : jcd 116 2 = some (.aload 0, 3) := by decide +kernel
theorem z116_3 : jcd 116 3 = some (.iload 1, 4) := by decide +kernel
theorem z116_4 : jcd 116 4 = some (.iload 2, 5) := by decide +kernel
theorem z116_5 : jcd 116 5 = some (.invokevirtual 73, 8) := by decide +kernel
theorem z116_8 : jcd 116 8 = some (.i2l, 9) := by decide +kernel
theorem z116_9 : jcd 116 9 = some (.lastore, 10) := by decide +kernel
theorem z116_10 : jcd 116 10 = some (.goto 21, 13) := by decide +kernel
theorem z116_13 : jcd 116 13 = some (.astore 4, 15) := by decide +kernel
theorem z116_15 : jcd 116 15 = some (.iconst 1, 16) := by decide +kernel
theorem z116_16 : jcd 116 16 = some (.ireturn, 17) := by decide +kernel
theorem z116_17 : jcd 116 17 = some (.astore 4, 19) := by decide +kernel
theorem z116_19 : jcd 116 19 = some (.iconst 2, 20) := by decide +kernel
theorem z116_20 : jcd 116 20 = some (.ireturn, 21) := by decide +kernel
theorem z116_21 : jcd 116 21 = some (.iconst 0, 22) := by decide +kernel
theorem z116_22 : jcd 116 22 = some (.ireturn, 23) := by decide +kernel
theorem z117_0 : jcd 117 0 = some (.aload 2, 1) := by decide +kernel
theorem z117_1 : jcd 117 1 = some (.iconst 0, 2) := by decide +kernel
theorem z117_2 : jcd 117 2 = some (.aload 0, 3) := by decide +kernel
theorem z117_3 : jcd 117 3 = some (.iload 1, 4) := by decide +kernel
theorem z117_4 : jcd 117 4 = some (.invokevirtual 76, 7) := by decide +kernel
theorem z117_7 : jcd 117 7 = some (.i2l, 8) := by decide +kernel
theorem z117_8 : jcd 117 8 = some (.lastore, 9) := by decide +kernel
theorem z117_9 : jcd 117 9 = some (.goto 15, 12) := by decide +kernel
theorem z117_12 : jcd 117 12 = some (.astore 3, 13) := by decide +kernel
theorem z117_13 : jcd 117 13 = some (.iconst 1, 14) := by decide +kernel
theorem z117_14 : jcd 117 14 = some (.ireturn, 15) := by decide +kernel
theorem z117_15 : jcd 117 15 = some (.iconst 0, 16) := by decide +kernel
theorem z117_16 : jcd 117 16 = some (.ireturn, 17) := by decide +kernel
end
section
/-! the heap of the law, from the two constructors on: A the arrays by address, V the numbers, O the law's own array -/
def hp (A : Nat → Nat → Int32) (V : Nat → Int32) (O : Nat → Int64) : List jC := [
  .inr (3, [.ref 1, .ref 11, .ref 19, .int (V 0), .int (V 1)]),
  .inr (0, [.ref 2, .ref 3, .ref 4, .ref 5, .ref 6, .ref 7, .ref 8, .ref 9, .ref 10, .int (V 2)]),
  .inl (0, 16, .inl (A 2)),
  .inl (0, 16, .inl (A 3)),
  .inl (0, 16, .inl (A 4)),
  .inl (0, 16, .inl (A 5)),
  .inl (0, 16, .inl (A 6)),
  .inl (0, 16, .inl (A 7)),
  .inl (0, 16, .inl (A 8)),
  .inl (0, 16, .inl (A 9)),
  .inl (1, 16, .inl (A 10)),
  .inr (1, [.ref 12, .ref 13, .ref 14, .ref 15, .ref 16, .ref 17, .ref 18, .int (V 3), .int (V 4)]),
  .inl (0, 300, .inl (A 12)),
  .inl (0, 300, .inl (A 13)),
  .inl (0, 300, .inl (A 14)),
  .inl (0, 320, .inl (A 15)),
  .inl (0, 320, .inl (A 16)),
  .inl (0, 320, .inl (A 17)),
  .inl (0, 320, .inl (A 18)),
  .inr (2, [.ref 20, .ref 21, .ref 22, .ref 23, .ref 24, .int (V 5)]),
  .inl (0, 12, .inl (A 20)),
  .inl (0, 12, .inl (A 21)),
  .inl (0, 20, .inl (A 22)),
  .inl (0, 12, .inl (A 23)),
  .inl (0, 20, .inl (A 24)),
  .inr (4, [.int (V 6), .int (V 7), .int (V 8), .int (V 9), .ref 26, .ref 27, .ref 28, .ref 29, .ref 30, .ref 31, .int (V 10), .ref 32, .ref 33, .ref 34, .ref 35, .ref 36, .ref 37, .ref 38, .int (V 11), .ref 39, .ref 40, .ref 41, .ref 42, .ref 43, .ref 44]),
  .inl (0, 16, .inl (A 26)),
  .inl (0, 16, .inl (A 27)),
  .inl (0, 16, .inl (A 28)),
  .inl (0, 16, .inl (A 29)),
  .inl (1, 256, .inl (A 30)),
  .inl (1, 320, .inl (A 31)),
  .inl (0, 300, .inl (A 32)),
  .inl (0, 300, .inl (A 33)),
  .inl (0, 300, .inl (A 34)),
  .inl (1, 300, .inl (A 35)),
  .inl (0, 300, .inl (A 36)),
  .inl (0, 15000, .inl (A 37)),
  .inl (0, 320, .inl (A 38)),
  .inl (0, 12, .inl (A 39)),
  .inl (0, 12, .inl (A 40)),
  .inl (0, 20, .inl (A 41)),
  .inl (1, 240, .inl (A 42)),
  .inl (0, 20, .inl (A 43)),
  .inl (0, 20, .inl (A 44)),
  .inl (2, 1, .inr O)]
section HP
variable {A : Nat → Nat → Int32} {V : Nat → Int32} {O : Nat → Int64}
theorem hs2 {f : Nat → Int32} : (hp A V O).set 2 (.inl (0, 16, .inl f)) = hp (va_up A 2 f) V O := rfl
theorem hs3 {f : Nat → Int32} : (hp A V O).set 3 (.inl (0, 16, .inl f)) = hp (va_up A 3 f) V O := rfl
theorem hs4 {f : Nat → Int32} : (hp A V O).set 4 (.inl (0, 16, .inl f)) = hp (va_up A 4 f) V O := rfl
theorem hs5 {f : Nat → Int32} : (hp A V O).set 5 (.inl (0, 16, .inl f)) = hp (va_up A 5 f) V O := rfl
theorem hs6 {f : Nat → Int32} : (hp A V O).set 6 (.inl (0, 16, .inl f)) = hp (va_up A 6 f) V O := rfl
theorem hs7 {f : Nat → Int32} : (hp A V O).set 7 (.inl (0, 16, .inl f)) = hp (va_up A 7 f) V O := rfl
theorem hs8 {f : Nat → Int32} : (hp A V O).set 8 (.inl (0, 16, .inl f)) = hp (va_up A 8 f) V O := rfl
theorem hs9 {f : Nat → Int32} : (hp A V O).set 9 (.inl (0, 16, .inl f)) = hp (va_up A 9 f) V O := rfl
theorem hs10 {f : Nat → Int32} : (hp A V O).set 10 (.inl (1, 16, .inl f)) = hp (va_up A 10 f) V O := rfl
theorem hs12 {f : Nat → Int32} : (hp A V O).set 12 (.inl (0, 300, .inl f)) = hp (va_up A 12 f) V O := rfl
theorem hs13 {f : Nat → Int32} : (hp A V O).set 13 (.inl (0, 300, .inl f)) = hp (va_up A 13 f) V O := rfl
theorem hs14 {f : Nat → Int32} : (hp A V O).set 14 (.inl (0, 300, .inl f)) = hp (va_up A 14 f) V O := rfl
theorem hs15 {f : Nat → Int32} : (hp A V O).set 15 (.inl (0, 320, .inl f)) = hp (va_up A 15 f) V O := rfl
theorem hs16 {f : Nat → Int32} : (hp A V O).set 16 (.inl (0, 320, .inl f)) = hp (va_up A 16 f) V O := rfl
theorem hs17 {f : Nat → Int32} : (hp A V O).set 17 (.inl (0, 320, .inl f)) = hp (va_up A 17 f) V O := rfl
theorem hs18 {f : Nat → Int32} : (hp A V O).set 18 (.inl (0, 320, .inl f)) = hp (va_up A 18 f) V O := rfl
theorem hs20 {f : Nat → Int32} : (hp A V O).set 20 (.inl (0, 12, .inl f)) = hp (va_up A 20 f) V O := rfl
theorem hs21 {f : Nat → Int32} : (hp A V O).set 21 (.inl (0, 12, .inl f)) = hp (va_up A 21 f) V O := rfl
theorem hs22 {f : Nat → Int32} : (hp A V O).set 22 (.inl (0, 20, .inl f)) = hp (va_up A 22 f) V O := rfl
theorem hs23 {f : Nat → Int32} : (hp A V O).set 23 (.inl (0, 12, .inl f)) = hp (va_up A 23 f) V O := rfl
theorem hs24 {f : Nat → Int32} : (hp A V O).set 24 (.inl (0, 20, .inl f)) = hp (va_up A 24 f) V O := rfl
theorem hs26 {f : Nat → Int32} : (hp A V O).set 26 (.inl (0, 16, .inl f)) = hp (va_up A 26 f) V O := rfl
theorem hs27 {f : Nat → Int32} : (hp A V O).set 27 (.inl (0, 16, .inl f)) = hp (va_up A 27 f) V O := rfl
theorem hs28 {f : Nat → Int32} : (hp A V O).set 28 (.inl (0, 16, .inl f)) = hp (va_up A 28 f) V O := rfl
theorem hs29 {f : Nat → Int32} : (hp A V O).set 29 (.inl (0, 16, .inl f)) = hp (va_up A 29 f) V O := rfl
theorem hs30 {f : Nat → Int32} : (hp A V O).set 30 (.inl (1, 256, .inl f)) = hp (va_up A 30 f) V O := rfl
theorem hs31 {f : Nat → Int32} : (hp A V O).set 31 (.inl (1, 320, .inl f)) = hp (va_up A 31 f) V O := rfl
theorem hs32 {f : Nat → Int32} : (hp A V O).set 32 (.inl (0, 300, .inl f)) = hp (va_up A 32 f) V O := rfl
theorem hs33 {f : Nat → Int32} : (hp A V O).set 33 (.inl (0, 300, .inl f)) = hp (va_up A 33 f) V O := rfl
theorem hs34 {f : Nat → Int32} : (hp A V O).set 34 (.inl (0, 300, .inl f)) = hp (va_up A 34 f) V O := rfl
theorem hs35 {f : Nat → Int32} : (hp A V O).set 35 (.inl (1, 300, .inl f)) = hp (va_up A 35 f) V O := rfl
theorem hs36 {f : Nat → Int32} : (hp A V O).set 36 (.inl (0, 300, .inl f)) = hp (va_up A 36 f) V O := rfl
theorem hs37 {f : Nat → Int32} : (hp A V O).set 37 (.inl (0, 15000, .inl f)) = hp (va_up A 37 f) V O := rfl
theorem hs38 {f : Nat → Int32} : (hp A V O).set 38 (.inl (0, 320, .inl f)) = hp (va_up A 38 f) V O := rfl
theorem hs39 {f : Nat → Int32} : (hp A V O).set 39 (.inl (0, 12, .inl f)) = hp (va_up A 39 f) V O := rfl
theorem hs40 {f : Nat → Int32} : (hp A V O).set 40 (.inl (0, 12, .inl f)) = hp (va_up A 40 f) V O := rfl
theorem hs41 {f : Nat → Int32} : (hp A V O).set 41 (.inl (0, 20, .inl f)) = hp (va_up A 41 f) V O := rfl
theorem hs42 {f : Nat → Int32} : (hp A V O).set 42 (.inl (1, 240, .inl f)) = hp (va_up A 42 f) V O := rfl
theorem hs43 {f : Nat → Int32} : (hp A V O).set 43 (.inl (0, 20, .inl f)) = hp (va_up A 43 f) V O := rfl
theorem hs44 {f : Nat → Int32} : (hp A V O).set 44 (.inl (0, 20, .inl f)) = hp (va_up A 44 f) V O := rfl
theorem hv0 {v : Int32} : (hp A V O).set 0 (.inr (3, [.ref 1, .ref 11, .ref 19, .int v, .int (V 1)])) = hp A (va_up V 0 v) O := rfl
theorem hv1 {v : Int32} : (hp A V O).set 0 (.inr (3, [.ref 1, .ref 11, .ref 19, .int (V 0), .int v])) = hp A (va_up V 1 v) O := rfl
theorem hv2 {v : Int32} : (hp A V O).set 1 (.inr (0, [.ref 2, .ref 3, .ref 4, .ref 5, .ref 6, .ref 7, .ref 8, .ref 9, .ref 10, .int v])) = hp A (va_up V 2 v) O := rfl
theorem hv3 {v : Int32} : (hp A V O).set 11 (.inr (1, [.ref 12, .ref 13, .ref 14, .ref 15, .ref 16, .ref 17, .ref 18, .int v, .int (V 4)])) = hp A (va_up V 3 v) O := rfl
theorem hv4 {v : Int32} : (hp A V O).set 11 (.inr (1, [.ref 12, .ref 13, .ref 14, .ref 15, .ref 16, .ref 17, .ref 18, .int (V 3), .int v])) = hp A (va_up V 4 v) O := rfl
theorem hv5 {v : Int32} : (hp A V O).set 19 (.inr (2, [.ref 20, .ref 21, .ref 22, .ref 23, .ref 24, .int v])) = hp A (va_up V 5 v) O := rfl
theorem hv6 {v : Int32} : (hp A V O).set 25 (.inr (4, [.int v, .int (V 7), .int (V 8), .int (V 9), .ref 26, .ref 27, .ref 28, .ref 29, .ref 30, .ref 31, .int (V 10), .ref 32, .ref 33, .ref 34, .ref 35, .ref 36, .ref 37, .ref 38, .int (V 11), .ref 39, .ref 40, .ref 41, .ref 42, .ref 43, .ref 44])) = hp A (va_up V 6 v) O := rfl
theorem hv7 {v : Int32} : (hp A V O).set 25 (.inr (4, [.int (V 6), .int v, .int (V 8), .int (V 9), .ref 26, .ref 27, .ref 28, .ref 29, .ref 30, .ref 31, .int (V 10), .ref 32, .ref 33, .ref 34, .ref 35, .ref 36, .ref 37, .ref 38, .int (V 11), .ref 39, .ref 40, .ref 41, .ref 42, .ref 43, .ref 44])) = hp A (va_up V 7 v) O := rfl
theorem hv8 {v : Int32} : (hp A V O).set 25 (.inr (4, [.int (V 6), .int (V 7), .int v, .int (V 9), .ref 26, .ref 27, .ref 28, .ref 29, .ref 30, .ref 31, .int (V 10), .ref 32, .ref 33, .ref 34, .ref 35, .ref 36, .ref 37, .ref 38, .int (V 11), .ref 39, .ref 40, .ref 41, .ref 42, .ref 43, .ref 44])) = hp A (va_up V 8 v) O := rfl
theorem hv9 {v : Int32} : (hp A V O).set 25 (.inr (4, [.int (V 6), .int (V 7), .int (V 8), .int v, .ref 26, .ref 27, .ref 28, .ref 29, .ref 30, .ref 31, .int (V 10), .ref 32, .ref 33, .ref 34, .ref 35, .ref 36, .ref 37, .ref 38, .int (V 11), .ref 39, .ref 40, .ref 41, .ref 42, .ref 43, .ref 44])) = hp A (va_up V 9 v) O := rfl
theorem hv10 {v : Int32} : (hp A V O).set 25 (.inr (4, [.int (V 6), .int (V 7), .int (V 8), .int (V 9), .ref 26, .ref 27, .ref 28, .ref 29, .ref 30, .ref 31, .int v, .ref 32, .ref 33, .ref 34, .ref 35, .ref 36, .ref 37, .ref 38, .int (V 11), .ref 39, .ref 40, .ref 41, .ref 42, .ref 43, .ref 44])) = hp A (va_up V 10 v) O := rfl
theorem hv11 {v : Int32} : (hp A V O).set 25 (.inr (4, [.int (V 6), .int (V 7), .int (V 8), .int (V 9), .ref 26, .ref 27, .ref 28, .ref 29, .ref 30, .ref 31, .int (V 10), .ref 32, .ref 33, .ref 34, .ref 35, .ref 36, .ref 37, .ref 38, .int v, .ref 39, .ref 40, .ref 41, .ref 42, .ref 43, .ref 44])) = hp A (va_up V 11 v) O := rfl
theorem ho45 {f : Nat → Int64} : (hp A V O).set 45 (.inl (2, 1, .inr f)) = hp A V f := rfl
theorem hplen : (hp A V O).length = 46 := rfl
end HP
end
section
theorem s48 {l : Launch} {E : jEnv} {A : Nat → Nat → Int32} {V : Nat → Int32} {O : Nat → Int64} {Q : jO → List jC → Prop} {p c : Int32} (hQ : Q (.inl (some (.int (p * 16 + c)))) (hp A V O)) : GO l E 48 0 [some (.int p), some (.int c)] [] (hp A V O) 0 0 Q := by
  refine R_iload z48_0 rfl ?_
  refine R_bipush z48_1 (v := 16) (by decide) ?_
  refine R_imul z48_3 ?_
  refine R_iload z48_4 rfl ?_
  refine R_iadd z48_5 ?_
  exact R_iret z48_6 (Or.inl (by decide +kernel)) ⟨Nat.zero_le _, Nat.zero_le _⟩ (hQ)
abbrev jbit (x m : Int32) : Prop := ¬ (x >>> (m &&& 31)) &&& 1 = 0
theorem s49 {l : Launch} {E : jEnv} {A : Nat → Nat → Int32} {V : Nat → Int32} {O : Nat → Int64} {Q : jO → List jC → Prop} {x m : Int32} (h1 : jbit x m → Q (.inl (some (.int 1))) (hp A V O)) (h0 : ¬ jbit x m → Q (.inl (some (.int 0))) (hp A V O)) : GO l E 49 0 [some (.int x), some (.int m)] [] (hp A V O) 0 0 Q := by
  refine R_iload z49_0 rfl ?_
  refine R_iload z49_1 rfl ?_
  refine R_ishr z49_2 ?_
  refine R_iconst z49_3 (v := 1) (by decide) ?_
  refine R_iand z49_4 ?_
  refine R_if z49_5 (tn := 12) rfl (fun (h5 : (((x >>> (m &&& 31)) &&& 1) : Int32) = 0) => ?_) (fun (h5 : ¬ (((x >>> (m &&& 31)) &&& 1) : Int32) = 0) => ?_)
  · refine R_iconst z49_12 (v := 0) (by decide) ?_
    exact R_iret z49_13 (Or.inr (by decide)) ⟨Nat.zero_le _, Nat.zero_le _⟩ (h0 (fun z => z h5))
  · refine R_iconst z49_8 (v := 1) (by decide) ?_
    refine R_goto z49_9 (tn := 13) rfl ?_
    exact R_iret z49_13 (Or.inr (by decide)) ⟨Nat.zero_le _, Nat.zero_le _⟩ (h1 h5)
theorem s44 {l : Launch} {E : jEnv} {A : Nat → Nat → Int32} {V : Nat → Int32} {O : Nat → Int64} {Q : jO → List jC → Prop} {c : Int32} (hA : ¬ c < 0 → c < V 2 → Q (.inl none) (hp A V O)) (h0 : (c < 0 ∨ ¬ c < V 2) → Q (.inr "java/lang/IllegalArgumentException") (hp A V O)) : GO l E 44 0 [some (.ref 0), some (.int c)] [] (hp A V O) 0 0 Q := by
  refine R_iload z44_0 rfl ?_
  refine R_if z44_1 (tn := 15) rfl (fun (h1 : (c : Int32) < 0) => ?_) (fun (h1 : ¬ (c : Int32) < 0) => ?_)
  · exact R_throw z44_15 (q := (175, 202, 179, "java/lang/IllegalArgumentException", "no such course")) (X := "java/lang/IllegalArgumentException") (by decide +kernel) rfl rfl (by decide +kernel) (by decide +kernel) (h0 (Or.inl h1))
  · refine R_iload z44_4 rfl ?_
    refine R_aload z44_5 rfl ?_
    refine R_get z44_6 (k := 3) (f := 0) (by decide +kernel) rfl rfl ?_
    refine R_get z44_9 (k := 0) (f := 9) (by decide +kernel) rfl rfl ?_
    refine R_icmp z44_12 (tn := 25) rfl (fun (h12 : (c : Int32) < (V 2)) => ?_) (fun (h12 : ¬ (c : Int32) < (V 2)) => ?_)
    · exact R_vret z44_25 ⟨Nat.zero_le _, Nat.zero_le _⟩ (hA h1 h12)
    · exact R_throw z44_15 (q := (175, 202, 179, "java/lang/IllegalArgumentException", "no such course")) (X := "java/lang/IllegalArgumentException") (by decide +kernel) rfl rfl (by decide +kernel) (by decide +kernel) (h0 (Or.inr h12))
theorem s46 {l : Launch} {E : jEnv} {A : Nat → Nat → Int32} {V : Nat → Int32} {O : Nat → Int64} {Q : jO → List jC → Prop} {n a b : Int32} (hA : ¬ n < a → n ≤ b → Q (.inl none) (hp A V O)) (h0 : (n < a ∨ ¬ n ≤ b) → Q (.inr "java/lang/IndexOutOfBoundsException") (hp A V O)) : GO l E 46 0 [some (.int n), some (.int a), some (.int b)] [] (hp A V O) 0 0 Q := by
  refine R_iload z46_0 rfl ?_
  refine R_iload z46_1 rfl ?_
  refine R_icmp z46_2 (tn := 10) rfl (fun (h2 : (n : Int32) < a) => ?_) (fun (h2 : ¬ (n : Int32) < a) => ?_)
  · exact R_throw z46_10 (q := (183, 206, 187, "java/lang/IndexOutOfBoundsException", "a number is outside its range")) (X := "java/lang/IndexOutOfBoundsException") (by decide +kernel) rfl rfl (by decide +kernel) (by decide +kernel) (h0 (Or.inl h2))
  · refine R_iload z46_5 rfl ?_
    refine R_iload z46_6 rfl ?_
    refine R_icmp z46_7 (tn := 20) rfl (fun (h7 : (n : Int32) ≤ b) => ?_) (fun (h7 : ¬ (n : Int32) ≤ b) => ?_)
    · exact R_vret z46_20 ⟨Nat.zero_le _, Nat.zero_le _⟩ (hA h2 h7)
    · exact R_throw z46_10 (q := (183, 206, 187, "java/lang/IndexOutOfBoundsException", "a number is outside its range")) (X := "java/lang/IndexOutOfBoundsException") (by decide +kernel) rfl rfl (by decide +kernel) (by decide +kernel) (h0 (Or.inr h7))
theorem s45 {l : Launch} {E : jEnv} {A : Nat → Nat → Int32} {V : Nat → Int32} {O : Nat → Int64} {Q : jO → List jC → Prop} {p c : Int32} (hA : ¬ p < 0 → p < 20 → ¬ c < 0 → c < V 2 → Q (.inl none) (hp A V O)) (h0 : (p < 0 ∨ ¬ p < 20 ∨ c < 0 ∨ ¬ c < V 2) → Q (.inr "java/lang/IllegalArgumentException") (hp A V O)) : GO l E 45 0 [some (.ref 0), some (.int p), some (.int c)] [] (hp A V O) 0 0 Q := by
  refine R_iload z45_0 rfl ?_
  refine R_if z45_1 (tn := 10) rfl (fun (h1 : (p : Int32) < 0) => ?_) (fun (h1 : ¬ (p : Int32) < 0) => ?_)
  · exact R_throw z45_10 (q := (175, 204, 179, "java/lang/IllegalArgumentException", "no such person")) (X := "java/lang/IllegalArgumentException") (by decide +kernel) rfl rfl (by decide +kernel) (by decide +kernel) (h0 (Or.inl h1))
  · refine R_iload z45_4 rfl ?_
    refine R_bipush z45_5 (v := 20) (by decide) ?_
    refine R_icmp z45_7 (tn := 20) rfl (fun (h7 : (p : Int32) < 20) => ?_) (fun (h7 : ¬ (p : Int32) < 20) => ?_)
    · refine R_aload z45_20 rfl ?_
      refine R_iload z45_21 rfl ?_
      refine R_cv z45_22 (k := 44) (by decide +kernel) rfl rfl (by decide +kernel) (Nat.le_of_ble_eq_true (by rfl)) rfl ⟨rfl, trivial⟩ ?_
      refine s44 (fun g1 g2 => jBk_ret rfl ⟨rfl, rfl⟩ ?_) (fun g => jBk_thr rfl ⟨rfl, rfl⟩ (h0 (Or.inr (Or.inr g))))
      exact R_vret z45_25 ⟨Nat.zero_le _, Nat.zero_le _⟩ (hA h1 h7 g1 g2)
    · exact R_throw z45_10 (q := (175, 204, 179, "java/lang/IllegalArgumentException", "no such person")) (X := "java/lang/IllegalArgumentException") (by decide +kernel) rfl rfl (by decide +kernel) (by decide +kernel) (h0 (Or.inr (Or.inl h7)))
theorem s4 {l : Launch} {E : jEnv} {A : Nat → Nat → Int32} {V : Nat → Int32} {O : Nat → Int64} {Q : jO → List jC → Prop} (h1 : ¬ V 2 < 16 → Q (.inl (some (.int 1))) (hp A V O)) (h0 : V 2 < 16 → Q (.inl (some (.int 0))) (hp A V O)) : GO l E 4 0 [some (.ref 1)] [] (hp A V O) 0 0 Q := by
  refine R_aload z4_0 rfl ?_
  refine R_get z4_1 (k := 0) (f := 9) (by decide +kernel) rfl rfl ?_
  refine R_bipush z4_4 (v := 16) (by decide) ?_
  refine R_icmp z4_6 (tn := 13) rfl (fun (h6 : ((V 2) : Int32) < 16) => ?_) (fun (h6 : ¬ ((V 2) : Int32) < 16) => ?_)
  · refine R_iconst z4_13 (v := 0) (by decide) ?_
    exact R_iret z4_14 (Or.inr (by decide)) ⟨Nat.zero_le _, Nat.zero_le _⟩ (h0 h6)
  · refine R_iconst z4_9 (v := 1) (by decide) ?_
    refine R_goto z4_10 (tn := 14) rfl ?_
    exact R_iret z4_14 (Or.inr (by decide)) ⟨Nat.zero_le _, Nat.zero_le _⟩ (h1 h6)
theorem s11 {l : Launch} {E : jEnv} {A : Nat → Nat → Int32} {V : Nat → Int32} {O : Nat → Int64} {Q : jO → List jC → Prop} (h1 : ¬ V 3 < 300 → Q (.inl (some (.int 1))) (hp A V O)) (h0 : V 3 < 300 → Q (.inl (some (.int 0))) (hp A V O)) : GO l E 11 0 [some (.ref 11)] [] (hp A V O) 0 0 Q := by
  refine R_aload z11_0 rfl ?_
  refine R_get z11_1 (k := 1) (f := 7) (by decide +kernel) rfl rfl ?_
  refine R_sipush z11_4 (v := 300) (by decide) ?_
  refine R_icmp z11_7 (tn := 14) rfl (fun (h7 : ((V 3) : Int32) < 300) => ?_) (fun (h7 : ¬ ((V 3) : Int32) < 300) => ?_)
  · refine R_iconst z11_14 (v := 0) (by decide) ?_
    exact R_iret z11_15 (Or.inr (by decide)) ⟨Nat.zero_le _, Nat.zero_le _⟩ (h0 h7)
  · refine R_iconst z11_10 (v := 1) (by decide) ?_
    refine R_goto z11_11 (tn := 15) rfl ?_
    exact R_iret z11_15 (Or.inr (by decide)) ⟨Nat.zero_le _, Nat.zero_le _⟩ (h1 h7)
theorem s47 {l : Launch} {E : jEnv} {A : Nat → Nat → Int32} {V : Nat → Int32} {O : Nat → Int64} {Q : jO → List jC → Prop} (hA : V 3 < 300 → Q (.inl none) (hp A V O)) (h0 : ¬ V 3 < 300 → Q (.inr "java/lang/UnsupportedOperationException") (hp A V O)) : GO l E 47 0 [some (.ref 0)] [] (hp A V O) 0 0 Q := by
  refine R_aload z47_0 rfl ?_
  refine R_get z47_1 (k := 3) (f := 1) (by decide +kernel) rfl rfl ?_
  refine R_cv z47_4 (k := 11) (by decide +kernel) rfl rfl (by decide +kernel) (Nat.le_of_ble_eq_true (by rfl)) rfl ⟨rfl, trivial⟩ ?_
  refine s11 (fun g => jBk_ret rfl ⟨rfl, rfl⟩ ?_) (fun g => jBk_ret rfl ⟨rfl, rfl⟩ ?_)
  · refine R_if z47_7 (tn := 20) rfl (fun q => absurd q (show ¬ (1 : Int32) = 0 by decide)) (fun (h7 : ¬ (1 : Int32) = 0) => ?_)
    exact R_throw z47_10 (q := (45, 209, 49, "java/lang/UnsupportedOperationException", "no room for one more result")) (X := "java/lang/UnsupportedOperationException") (by decide +kernel) rfl rfl (by decide +kernel) (by decide +kernel) (h0 g)
  · refine R_if z47_7 (tn := 20) rfl (fun h7 => ?_) (fun h7 => ?_)
    · exact R_vret z47_20 ⟨Nat.zero_le _, Nat.zero_le _⟩ (hA g)
    · exact absurd rfl h7
end
section
theorem R_top {l : Launch} {E : jEnv} {i pc : Nat} {loc : List (Option Value)} {st : List Value} {h : List jC} {c s : Nat} {Q : jO → List jC → Prop} {x y : Int32} (e : x = y) (kk : GO l E i pc loc (.int y :: st) h c s Q) : GO l E i pc loc (.int x :: st) h c s Q := by rw [e]; exact kk
theorem npair (p c : Nat) : nI p * 16 + nI c = nI (16 * p + c) := by
  rw [show (16 : Int32) = nI 16 by decide, pk_mul, nI_add, Nat.mul_comm]
theorem ncl {n : Nat} (h : n < 15001) : (nI n).toNatClampNeg = n := nI_clamp (by omega)
theorem nin {n N : Nat} (h : n < N) (hN : N ≤ 15000) : vp_in (nI n) N := vp_in_nI h (by omega)
theorem nge {a b : Nat} (ha : a < 20000) (hb : b < 20000) : nI b ≤ nI a ↔ b ≤ a := nI_leI (by omega) (by omega)
theorem nlt {a b : Nat} (ha : a < 20000) (hb : b < 20000) : nI a < nI b ↔ a < b := nI_ltI (by omega) (by omega)
theorem n20 : (20 : Int32) = nI 20 := by decide
theorem nm1 {n : Nat} (h : n < 20000) : ¬ nI n = -1 := by
  intro z
  have h1 := congrArg Int32.toInt z
  rw [nI_toInt (by omega), show (-1 : Int32).toInt = -1 by decide] at h1
  omega
/-- a pass's number or none -/
def jpass (x : Int32) (r : Nat) : Prop := x = -1 ∨ ∃ k, k < r ∧ x = nI k
theorem jpass_in {x : Int32} {r N : Nat} (h : jpass x r) (hx : ¬ x = -1) (hr : r ≤ N) (hN : N ≤ 15000) : vp_in x N := by
  rcases h with h | ⟨k, hk, rfl⟩
  · exact absurd h hx
  · exact nin (by omega) hN
/-- the lapse of a pass x of course c, as it stands -/
def cLof (A : Nat → Nat → Int32) (x : Int32) (c : Nat) : Int32 := if x = -1 then -1 else A 12 x.toNatClampNeg + A 2 c + A 14 x.toNatClampNeg
def cLap (A : Nat → Nat → Int32) (p c : Nat) : Int32 := cLof A (A 15 (16 * p + c)) c
abbrev cHold (A : Nat → Nat → Int32) (V : Nat → Int32) (p c : Nat) : Prop := V 0 < cLap A p c
/-- the class's numbers are in range -/
def cWf (A : Nat → Nat → Int32) (V : Nat → Int32) (n r : Nat) : Prop := V 2 = nI n ∧ n ≤ 16 ∧ V 3 = nI r ∧ r ≤ 300 ∧ (∀ q, q < 320 → jpass (A 15 q) r) ∧ ∀ k, k < r → jpass (A 13 k) k
theorem s53 {l : Launch} {E : jEnv} {A : Nat → Nat → Int32} {V : Nat → Int32} {O : Nat → Int64} {Q : jO → List jC → Prop} {x : Int32} {c r : Nat} (hx : jpass x r) (hr : r ≤ 300) (hc : c < 16) (hQ : Q (.inl (some (.int (cLof A x c)))) (hp A V O)) : GO l E 53 0 [some (.ref 0), some (.int x), some (.int (nI c))] [] (hp A V O) 0 0 Q := by
  refine R_iload z53_0 rfl ?_
  refine R_iconst z53_1 (v := (-1)) (by decide) ?_
  refine R_icmp z53_2 (tn := 7) rfl (fun (h2 : ¬ (x : Int32) = (-1)) => ?_) (fun (h2 : ¬ (¬ (x : Int32) = (-1))) => ?_)
  · refine R_aload z53_7 rfl ?_
    refine R_get z53_8 (k := 3) (f := 1) (by decide +kernel) rfl rfl ?_
    refine R_get z53_11 (k := 1) (f := 0) (by decide +kernel) rfl rfl ?_
    refine R_iload z53_14 rfl ?_
    refine R_ild z53_15 (n := 300) (f := A 12) (v := (A 12 (x).toNatClampNeg)) rfl (jpass_in hx h2 hr (by decide)) (rfl) ?_
    refine R_aload z53_16 rfl ?_
    refine R_get z53_17 (k := 3) (f := 0) (by decide +kernel) rfl rfl ?_
    refine R_get z53_20 (k := 0) (f := 0) (by decide +kernel) rfl rfl ?_
    refine R_iload z53_23 rfl ?_
    refine R_ild z53_24 (n := 16) (f := A 2) (v := (A 2 c)) rfl (nin hc (by decide)) (by rw [ncl (by omega)]) ?_
    refine R_iadd z53_25 ?_
    refine R_aload z53_26 rfl ?_
    refine R_get z53_27 (k := 3) (f := 1) (by decide +kernel) rfl rfl ?_
    refine R_get z53_30 (k := 1) (f := 2) (by decide +kernel) rfl rfl ?_
    refine R_iload z53_33 rfl ?_
    refine R_ild z53_34 (n := 300) (f := A 14) (v := (A 14 (x).toNatClampNeg)) rfl (jpass_in hx h2 hr (by decide)) (rfl) ?_
    refine R_iadd z53_35 ?_
    exact R_iret z53_36 (Or.inl (by decide +kernel)) ⟨Nat.zero_le _, Nat.zero_le _⟩ (by have e : cLof A x c = _ := if_neg h2; rw [e] at hQ; exact hQ)
  · refine R_iconst z53_5 (v := (-1)) (by decide) ?_
    exact R_iret z53_6 (Or.inl (by decide +kernel)) ⟨Nat.zero_le _, Nat.zero_le _⟩ (by have e : cLof A x c = -1 := if_pos (Classical.not_not.mp h2); rw [e] at hQ; exact hQ)
theorem s52 {l : Launch} {E : jEnv} {A : Nat → Nat → Int32} {V : Nat → Int32} {O : Nat → Int64} {Q : jO → List jC → Prop} {p c n r : Nat} (hW : cWf A V n r) (hp2 : p < 20) (hc : c < 16) (hQ : Q (.inl (some (.int (cLap A p c)))) (hp A V O)) : GO l E 52 0 [some (.ref 0), some (.int (nI p)), some (.int (nI c))] [] (hp A V O) 0 0 Q := by
  refine R_aload z52_0 rfl ?_
  refine R_aload z52_1 rfl ?_
  refine R_get z52_2 (k := 3) (f := 1) (by decide +kernel) rfl rfl ?_
  refine R_get z52_5 (k := 1) (f := 3) (by decide +kernel) rfl rfl ?_
  refine R_iload z52_8 rfl ?_
  refine R_iload z52_9 rfl ?_
  refine R_cs z52_10 (k := 48) (kind := 1) (by decide +kernel) (by decide) rfl rfl (by decide +kernel) (Nat.le_of_ble_eq_true (by rfl)) rfl ?_
  refine s48 (jBk_ret rfl ⟨rfl, rfl⟩ ?_)
  refine R_top (y := nI (16 * p + c)) (npair p c) ?_
  refine R_ild z52_13 (n := 320) (f := A 15) (v := (A 15 (16 * p + c))) rfl (nin (by omega) (by decide)) (by rw [ncl (by omega)]) ?_
  refine R_iload z52_14 rfl ?_
  refine R_cv z52_15 (k := 53) (by decide +kernel) rfl rfl (by decide +kernel) (Nat.le_of_ble_eq_true (by rfl)) rfl ⟨rfl, trivial⟩ ?_
  refine s53 (hW.2.2.2.2.1 _ (by omega)) hW.2.2.2.1 hc (jBk_ret rfl ⟨rfl, rfl⟩ ?_)
  exact R_iret z52_18 (Or.inl (by decide +kernel)) ⟨Nat.zero_le _, Nat.zero_le _⟩ (hQ)
theorem s54 {l : Launch} {E : jEnv} {A : Nat → Nat → Int32} {V : Nat → Int32} {O : Nat → Int64} {Q : jO → List jC → Prop} {p c n r : Nat} (hW : cWf A V n r) (hp2 : p < 20) (hc : c < 16) (h1 : cHold A V p c → Q (.inl (some (.int 1))) (hp A V O)) (h0 : ¬ cHold A V p c → Q (.inl (some (.int 0))) (hp A V O)) : GO l E 54 0 [some (.ref 0), some (.int (nI p)), some (.int (nI c))] [] (hp A V O) 0 0 Q := by
  refine R_aload z54_0 rfl ?_
  refine R_get z54_1 (k := 3) (f := 3) (by decide +kernel) rfl rfl ?_
  refine R_aload z54_4 rfl ?_
  refine R_iload z54_5 rfl ?_
  refine R_iload z54_6 rfl ?_
  refine R_cv z54_7 (k := 52) (by decide +kernel) rfl rfl (by decide +kernel) (Nat.le_of_ble_eq_true (by rfl)) rfl ⟨rfl, trivial⟩ ?_
  refine s52 hW hp2 hc (jBk_ret rfl ⟨rfl, rfl⟩ ?_)
  refine R_icmp z54_10 (tn := 17) rfl (fun (h10 : ((cLap A p c) : Int32) ≤ (V 0)) => ?_) (fun (h10 : ¬ ((cLap A p c) : Int32) ≤ (V 0)) => ?_)
  · refine R_iconst z54_17 (v := 0) (by decide) ?_
    exact R_iret z54_18 (Or.inr (by decide)) ⟨Nat.zero_le _, Nat.zero_le _⟩ (h0 (fun z => absurd (show cLap A p c ≤ V 0 from h10) (Int32.not_le.mpr z)))
  · refine R_iconst z54_13 (v := 1) (by decide) ?_
    refine R_goto z54_14 (tn := 18) rfl ?_
    exact R_iret z54_18 (Or.inr (by decide)) ⟨Nat.zero_le _, Nat.zero_le _⟩ (h1 (Int32.not_le.mp (show ¬ cLap A p c ≤ V 0 from h10)))
theorem s56_lp {l : Launch} {E : jEnv} {A : Nat → Nat → Int32} {V : Nat → Int32} {O : Nat → Int64} {Q : jO → List jC → Prop} {p c n r : Nat} (hW : cWf A V n r) (hp2 : p < 20) (hc : c < 16) (h1 : (∀ o, o < n → jbit (A 6 c) (nI o) → cHold A V p o) → Q (.inl (some (.int 1))) (hp A V O)) (h0 : (∃ o, o < n ∧ jbit (A 6 c) (nI o) ∧ ¬ cHold A V p o) → Q (.inl (some (.int 0))) (hp A V O)) : ∀ (d k : Nat), k + d = n → (∀ o, o < k → jbit (A 6 c) (nI o) → cHold A V p o) → GO l E 56 2 [some (.ref 0), some (.int (nI p)), some (.int (nI c)), some (.int (nI k))] [] (hp A V O) 0 0 Q := by
  intro d
  induction d with
  | zero =>
    intro k hk ha
    have hn16 := hW.2.1
    have hr300 := hW.2.2.2.1
    refine R_iload z56_2 rfl ?_
    refine R_aload z56_3 rfl ?_
    refine R_get z56_4 (k := 3) (f := 0) (by decide +kernel) rfl rfl ?_
    refine R_get z56_7 (k := 0) (f := 9) (by decide +kernel) rfl rfl ?_
    refine R_icmp z56_10 (tn := 46) rfl (fun (h10 : ((V 2) : Int32) ≤ (nI k)) => ?_) (fun q => absurd ((show V 2 ≤ nI k by rw [hW.1, nge (by omega) (by omega)]; omega)) q)
    refine R_iconst z56_46 (v := 1) (by decide) ?_
    exact R_iret z56_47 (Or.inr (by decide)) ⟨Nat.zero_le _, Nat.zero_le _⟩ (h1 (fun o ho => ha o (by omega)))
  | succ d ih =>
    intro k hk ha
    have hn16 := hW.2.1
    have hr300 := hW.2.2.2.1
    refine R_iload z56_2 rfl ?_
    refine R_aload z56_3 rfl ?_
    refine R_get z56_4 (k := 3) (f := 0) (by decide +kernel) rfl rfl ?_
    refine R_get z56_7 (k := 0) (f := 9) (by decide +kernel) rfl rfl ?_
    refine R_icmp z56_10 (tn := 46) rfl (fun q => absurd q ((show ¬ V 2 ≤ nI k by rw [hW.1, nge (by omega) (by omega)]; omega))) (fun (h10 : ¬ ((V 2) : Int32) ≤ (nI k)) => ?_)
    refine R_aload z56_13 rfl ?_
    refine R_get z56_14 (k := 3) (f := 0) (by decide +kernel) rfl rfl ?_
    refine R_get z56_17 (k := 0) (f := 4) (by decide +kernel) rfl rfl ?_
    refine R_iload z56_20 rfl ?_
    refine R_ild z56_21 (n := 16) (f := A 6) (v := (A 6 c)) rfl (nin hc (by decide)) (by rw [ncl (by omega)]) ?_
    refine R_iload z56_22 rfl ?_
    refine R_cs z56_23 (k := 49) (kind := 1) (by decide +kernel) (by decide) rfl rfl (by decide +kernel) (Nat.le_of_ble_eq_true (by rfl)) rfl ?_
    refine s49 (fun g => jBk_ret rfl ⟨rfl, rfl⟩ ?_) (fun g => jBk_ret rfl ⟨rfl, rfl⟩ ?_)
    · refine R_if z56_26 (tn := 40) rfl (fun q => absurd q (show ¬ (1 : Int32) = 0 by decide)) (fun (h26 : ¬ (1 : Int32) = 0) => ?_)
      refine R_aload z56_29 rfl ?_
      refine R_iload z56_30 rfl ?_
      refine R_iload z56_31 rfl ?_
      refine R_cv z56_32 (k := 54) (by decide +kernel) rfl rfl (by decide +kernel) (Nat.le_of_ble_eq_true (by rfl)) rfl ⟨rfl, trivial⟩ ?_
      refine s54 hW hp2 (by have := hW.2.1; omega) (fun g2 => jBk_ret rfl ⟨rfl, rfl⟩ ?_) (fun g2 => jBk_ret rfl ⟨rfl, rfl⟩ ?_)
      · refine R_if z56_35 (tn := 40) rfl (fun (h35 : ¬ (1 : Int32) = 0) => ?_) (fun q => absurd (show ¬ (1 : Int32) = 0 by decide) q)
        refine R_iinc z56_40 (v := 1) (loc' := [some (.ref 0), some (.int (nI p)), some (.int (nI c)), some (.int (nI (k + 1)))]) rfl rfl (by decide) (by rw [nI_1]; rfl) ?_
        refine R_goto z56_43 (tn := 2) rfl ?_
        exact ih (k + 1) (by omega) (fun o ho b => by
          rcases Nat.lt_or_ge o k with q | q
          · exact ha o q b
          · rw [show o = k by omega]; exact g2)
      · refine R_if z56_35 (tn := 40) rfl (fun q => absurd rfl q) (fun _ => ?_)
        refine R_iconst z56_38 (v := 0) (by decide) ?_
        exact R_iret z56_39 (Or.inr (by decide)) ⟨Nat.zero_le _, Nat.zero_le _⟩ (h0 ⟨k, by omega, g, g2⟩)
    · refine R_if z56_26 (tn := 40) rfl (fun _ => ?_) (fun q => absurd rfl q)
      refine R_iinc z56_40 (v := 1) (loc' := [some (.ref 0), some (.int (nI p)), some (.int (nI c)), some (.int (nI (k + 1)))]) rfl rfl (by decide) (by rw [nI_1]; rfl) ?_
      refine R_goto z56_43 (tn := 2) rfl ?_
      exact ih (k + 1) (by omega) (fun o ho b => by
        rcases Nat.lt_or_ge o k with q | q
        · exact ha o q b
        · exact absurd (show jbit (A 6 c) (nI k) by rw [show k = o by omega]; exact b) g)
theorem s56 {l : Launch} {E : jEnv} {A : Nat → Nat → Int32} {V : Nat → Int32} {O : Nat → Int64} {Q : jO → List jC → Prop} {p c n r : Nat} (hW : cWf A V n r) (hp2 : p < 20) (hc : c < 16) (h1 : (∀ o, o < n → jbit (A 6 c) (nI o) → cHold A V p o) → Q (.inl (some (.int 1))) (hp A V O)) (h0 : (∃ o, o < n ∧ jbit (A 6 c) (nI o) ∧ ¬ cHold A V p o) → Q (.inl (some (.int 0))) (hp A V O)) : GO l E 56 0 [some (.ref 0), some (.int (nI p)), some (.int (nI c)), none] [] (hp A V O) 0 0 Q := by
  refine R_iconst z56_0 (v := 0) (by decide) ?_
  refine R_istore z56_1 (loc' := [some (.ref 0), some (.int (nI p)), some (.int (nI c)), some (.int 0)]) rfl rfl ?_
  exact s56_lp hW hp2 hc h1 h0 n 0 (by omega) (fun o ho => absurd ho (by omega))
/-- how many of the first k persons count as instructors of c -/
def cCnt (A : Nat → Nat → Int32) (V : Nat → Int32) (c : Nat) : Nat → Nat
  | 0 => 0
  | k + 1 => cCnt A V c k + (if jbit (A 8 c) (nI k) ∧ cHold A V k c then 1 else 0)
theorem cCnt_le (A : Nat → Nat → Int32) (V : Nat → Int32) (c : Nat) : ∀ k, cCnt A V c k ≤ k
  | 0 => Nat.le_refl 0
  | k + 1 => by
    have := cCnt_le A V c k
    unfold cCnt
    split <;> omega
theorem s58_lp {l : Launch} {E : jEnv} {A : Nat → Nat → Int32} {V : Nat → Int32} {O : Nat → Int64} {Q : jO → List jC → Prop} {c n r : Nat} (hW : cWf A V n r) (hc : c < 16) (hQ : Q (.inl (some (.int (nI (cCnt A V c 20))))) (hp A V O)) : ∀ (d k : Nat), k + d = 20 →  GO l E 58 4 [some (.ref 0), some (.int (nI c)), some (.int (nI (cCnt A V c k))), some (.int (nI k))] [] (hp A V O) 0 0 Q := by
  intro d
  induction d with
  | zero =>
    intro k hk 
    have hn16 := hW.2.1
    have hr300 := hW.2.2.2.1
    refine R_iload z58_4 rfl ?_
    refine R_bipush z58_5 (v := 20) (by decide) ?_
    refine R_icmp z58_7 (tn := 44) rfl (fun (h7 : (20 : Int32) ≤ (nI k)) => ?_) (fun q => absurd ((show (20 : Int32) ≤ nI k by rw [n20, nge (by omega) (by omega)]; omega)) q)
    refine R_iload z58_44 rfl ?_
    exact R_iret z58_45 (Or.inl (by decide +kernel)) ⟨Nat.zero_le _, Nat.zero_le _⟩ (by rw [show k = 20 by omega]; exact hQ)
  | succ d ih =>
    intro k hk 
    have hn16 := hW.2.1
    have hr300 := hW.2.2.2.1
    refine R_iload z58_4 rfl ?_
    refine R_bipush z58_5 (v := 20) (by decide) ?_
    refine R_icmp z58_7 (tn := 44) rfl (fun q => absurd q ((show ¬ (20 : Int32) ≤ nI k by rw [n20, nge (by omega) (by omega)]; omega))) (fun (h7 : ¬ (20 : Int32) ≤ (nI k)) => ?_)
    refine R_aload z58_10 rfl ?_
    refine R_get z58_11 (k := 3) (f := 0) (by decide +kernel) rfl rfl ?_
    refine R_get z58_14 (k := 0) (f := 6) (by decide +kernel) rfl rfl ?_
    refine R_iload z58_17 rfl ?_
    refine R_ild z58_18 (n := 16) (f := A 8) (v := (A 8 c)) rfl (nin hc (by decide)) (by rw [ncl (by omega)]) ?_
    refine R_iload z58_19 rfl ?_
    refine R_cs z58_20 (k := 49) (kind := 1) (by decide +kernel) (by decide) rfl rfl (by decide +kernel) (Nat.le_of_ble_eq_true (by rfl)) rfl ?_
    refine s49 (fun g => jBk_ret rfl ⟨rfl, rfl⟩ ?_) (fun g => jBk_ret rfl ⟨rfl, rfl⟩ ?_)
    · refine R_if z58_23 (tn := 38) rfl (fun q => absurd q (show ¬ (1 : Int32) = 0 by decide)) (fun (h23 : ¬ (1 : Int32) = 0) => ?_)
      refine R_aload z58_26 rfl ?_
      refine R_iload z58_27 rfl ?_
      refine R_iload z58_28 rfl ?_
      refine R_cv z58_29 (k := 54) (by decide +kernel) rfl rfl (by decide +kernel) (Nat.le_of_ble_eq_true (by rfl)) rfl ⟨rfl, trivial⟩ ?_
      refine s54 hW (by omega) hc (fun g2 => jBk_ret rfl ⟨rfl, rfl⟩ ?_) (fun g2 => jBk_ret rfl ⟨rfl, rfl⟩ ?_)
      · refine R_if z58_32 (tn := 38) rfl (fun q => absurd q (show ¬ (1 : Int32) = 0 by decide)) (fun (h32 : ¬ (1 : Int32) = 0) => ?_)
        refine R_iinc z58_35 (v := 1) (loc' := [some (.ref 0), some (.int (nI c)), some (.int (nI (cCnt A V c k + 1))), some (.int (nI k))]) rfl rfl (by decide) (by rw [nI_1]; rfl) ?_
        refine R_iinc z58_38 (v := 1) (loc' := [some (.ref 0), some (.int (nI c)), some (.int (nI (cCnt A V c k + 1))), some (.int (nI (k + 1)))]) rfl rfl (by decide) (by rw [nI_1]; rfl) ?_
        refine R_goto z58_41 (tn := 4) rfl ?_
        have e : cCnt A V c (k + 1) = cCnt A V c k + 1 := by rw [cCnt, if_pos ⟨g, g2⟩]
        have ih2 := ih (k + 1) (by omega)
        rw [e] at ih2
        exact ih2
      · refine R_if z58_32 (tn := 38) rfl (fun _ => ?_) (fun q => absurd rfl q)
        refine R_iinc z58_38 (v := 1) (loc' := [some (.ref 0), some (.int (nI c)), some (.int (nI (cCnt A V c k))), some (.int (nI (k + 1)))]) rfl rfl (by decide) (by rw [nI_1]; rfl) ?_
        refine R_goto z58_41 (tn := 4) rfl ?_
        have e : cCnt A V c (k + 1) = cCnt A V c k := by rw [cCnt, if_neg (fun z => g2 z.2), Nat.add_zero]
        have ih2 := ih (k + 1) (by omega)
        rw [e] at ih2
        exact ih2
    · refine R_if z58_23 (tn := 38) rfl (fun _ => ?_) (fun q => absurd rfl q)
      refine R_iinc z58_38 (v := 1) (loc' := [some (.ref 0), some (.int (nI c)), some (.int (nI (cCnt A V c k))), some (.int (nI (k + 1)))]) rfl rfl (by decide) (by rw [nI_1]; rfl) ?_
      refine R_goto z58_41 (tn := 4) rfl ?_
      have e : cCnt A V c (k + 1) = cCnt A V c k := by rw [cCnt, if_neg (fun z => g z.1), Nat.add_zero]
      have ih2 := ih (k + 1) (by omega)
      rw [e] at ih2
      exact ih2
theorem s58 {l : Launch} {E : jEnv} {A : Nat → Nat → Int32} {V : Nat → Int32} {O : Nat → Int64} {Q : jO → List jC → Prop} {c n r : Nat} (hW : cWf A V n r) (hc : c < 16) (hQ : Q (.inl (some (.int (nI (cCnt A V c 20))))) (hp A V O)) : GO l E 58 0 [some (.ref 0), some (.int (nI c)), none, none] [] (hp A V O) 0 0 Q := by
  refine R_iconst z58_0 (v := 0) (by decide) ?_
  refine R_istore z58_1 (loc' := [some (.ref 0), some (.int (nI c)), some (.int 0), none]) rfl rfl ?_
  refine R_iconst z58_2 (v := 0) (by decide) ?_
  refine R_istore z58_3 (loc' := [some (.ref 0), some (.int (nI c)), some (.int 0), some (.int 0)]) rfl rfl ?_
  exact s58_lp hW hc hQ 20 0 (by omega)
end
section
theorem s1 {l : Launch} {E : jEnv} {A : Nat → Nat → Int32} {V : Nat → Int32} {O : Nat → Int64} {Q : jO → List jC → Prop} {x y : Int32} (h1 : x < y → Q (.inl (some (.int y))) (hp A V O)) (h0 : ¬ x < y → Q (.inl (some (.int x))) (hp A V O)) : GO l E 1 0 [some (.int x), some (.int y)] [] (hp A V O) 0 0 Q := by
  refine R_iload z1_0 rfl ?_
  refine R_iload z1_1 rfl ?_
  refine R_icmp z1_2 (tn := 9) rfl (fun (h2 : (x : Int32) < y) => ?_) (fun (h2 : ¬ (x : Int32) < y) => ?_)
  · refine R_iload z1_9 rfl ?_
    exact R_iret z1_10 (Or.inl (by decide +kernel)) ⟨Nat.zero_le _, Nat.zero_le _⟩ (h1 h2)
  · refine R_iload z1_5 rfl ?_
    refine R_goto z1_6 (tn := 10) rfl ?_
    exact R_iret z1_10 (Or.inl (by decide +kernel)) ⟨Nat.zero_le _, Nat.zero_le _⟩ (h0 h2)
theorem s2 {l : Launch} {E : jEnv} {A : Nat → Nat → Int32} {V : Nat → Int32} {O : Nat → Int64} {Q : jO → List jC → Prop} {x y : Int32} (h1 : y < x → Q (.inl (some (.int y))) (hp A V O)) (h0 : ¬ y < x → Q (.inl (some (.int x))) (hp A V O)) : GO l E 2 0 [some (.int x), some (.int y)] [] (hp A V O) 0 0 Q := by
  refine R_iload z2_0 rfl ?_
  refine R_iload z2_1 rfl ?_
  refine R_icmp z2_2 (tn := 9) rfl (fun (h2 : (y : Int32) < x) => ?_) (fun (h2 : ¬ (y : Int32) < x) => ?_)
  · refine R_iload z2_9 rfl ?_
    exact R_iret z2_10 (Or.inl (by decide +kernel)) ⟨Nat.zero_le _, Nat.zero_le _⟩ (h1 h2)
  · refine R_iload z2_5 rfl ?_
    refine R_goto z2_6 (tn := 10) rfl ?_
    exact R_iret z2_10 (Or.inl (by decide +kernel)) ⟨Nat.zero_le _, Nat.zero_le _⟩ (h0 h2)
def cAll (A : Nat → Nat → Int32) (V : Nat → Int32) : Nat → Nat
  | 0 => 0
  | k + 1 => cAll A V k + cCnt A V k 20
theorem s59_lp {l : Launch} {E : jEnv} {A : Nat → Nat → Int32} {V : Nat → Int32} {O : Nat → Int64} {Q : jO → List jC → Prop} { n r : Nat} (hW : cWf A V n r) (hQ : Q (.inl (some (.int (nI (cAll A V n))))) (hp A V O)) : ∀ (d k : Nat), k + d = n →  GO l E 59 4 [some (.ref 0), some (.int (nI (cAll A V k))), some (.int (nI k))] [] (hp A V O) 0 0 Q := by
  intro d
  induction d with
  | zero =>
    intro k hk 
    have hn16 := hW.2.1
    have hr300 := hW.2.2.2.1
    refine R_iload z59_4 rfl ?_
    refine R_aload z59_5 rfl ?_
    refine R_get z59_6 (k := 3) (f := 0) (by decide +kernel) rfl rfl ?_
    refine R_get z59_9 (k := 0) (f := 9) (by decide +kernel) rfl rfl ?_
    refine R_icmp z59_12 (tn := 29) rfl (fun (h12 : ((V 2) : Int32) ≤ (nI k)) => ?_) (fun q => absurd ((show V 2 ≤ nI k by rw [hW.1, nge (by omega) (by omega)]; omega)) q)
    refine R_iload z59_29 rfl ?_
    exact R_iret z59_30 (Or.inl (by decide +kernel)) ⟨Nat.zero_le _, Nat.zero_le _⟩ (by rw [show k = n by omega]; exact hQ)
  | succ d ih =>
    intro k hk 
    have hn16 := hW.2.1
    have hr300 := hW.2.2.2.1
    refine R_iload z59_4 rfl ?_
    refine R_aload z59_5 rfl ?_
    refine R_get z59_6 (k := 3) (f := 0) (by decide +kernel) rfl rfl ?_
    refine R_get z59_9 (k := 0) (f := 9) (by decide +kernel) rfl rfl ?_
    refine R_icmp z59_12 (tn := 29) rfl (fun q => absurd q ((show ¬ V 2 ≤ nI k by rw [hW.1, nge (by omega) (by omega)]; omega))) (fun (h12 : ¬ ((V 2) : Int32) ≤ (nI k)) => ?_)
    refine R_iload z59_15 rfl ?_
    refine R_aload z59_16 rfl ?_
    refine R_iload z59_17 rfl ?_
    refine R_cv z59_18 (k := 58) (by decide +kernel) rfl rfl (by decide +kernel) (Nat.le_of_ble_eq_true (by rfl)) rfl ⟨rfl, trivial⟩ ?_
    refine s58 hW (by omega) (jBk_ret rfl ⟨rfl, rfl⟩ ?_)
    refine R_iadd z59_21 ?_
    refine R_top (y := nI (cAll A V (k + 1))) (by rw [nI_add]; rfl) ?_
    refine R_istore z59_22 (loc' := [some (.ref 0), some (.int (nI (cAll A V (k + 1)))), some (.int (nI k))]) rfl rfl ?_
    refine R_iinc z59_23 (v := 1) (loc' := [some (.ref 0), some (.int (nI (cAll A V (k + 1)))), some (.int (nI (k + 1)))]) rfl rfl (by decide) (by rw [nI_1]; rfl) ?_
    refine R_goto z59_26 (tn := 4) rfl ?_
    exact ih (k + 1) (by omega)
theorem s59 {l : Launch} {E : jEnv} {A : Nat → Nat → Int32} {V : Nat → Int32} {O : Nat → Int64} {Q : jO → List jC → Prop} { n r : Nat} (hW : cWf A V n r) (hQ : Q (.inl (some (.int (nI (cAll A V n))))) (hp A V O)) : GO l E 59 0 [some (.ref 0), none, none] [] (hp A V O) 0 0 Q := by
  refine R_iconst z59_0 (v := 0) (by decide) ?_
  refine R_istore z59_1 (loc' := [some (.ref 0), some (.int 0), none]) rfl rfl ?_
  refine R_iconst z59_2 (v := 0) (by decide) ?_
  refine R_istore z59_3 (loc' := [some (.ref 0), some (.int 0), some (.int 0)]) rfl rfl ?_
  exact s59_lp hW hQ n 0 (by omega)
def cRoom (A : Nat → Nat → Int32) (V : Nat → Int32) (c : Nat) : Int32 := if (0 : Int32) < A 5 c * nI (cCnt A V c 20) - A 9 c then A 5 c * nI (cCnt A V c 20) - A 9 c else 0
theorem s57 {l : Launch} {E : jEnv} {A : Nat → Nat → Int32} {V : Nat → Int32} {O : Nat → Int64} {Q : jO → List jC → Prop} {c n r : Nat} (hW : cWf A V n r) (hc : c < 16) (hQ : Q (.inl (some (.int (cRoom A V c)))) (hp A V O)) : GO l E 57 0 [some (.ref 0), some (.int (nI c)), none] [] (hp A V O) 0 0 Q := by
  refine R_aload z57_0 rfl ?_
  refine R_get z57_1 (k := 3) (f := 0) (by decide +kernel) rfl rfl ?_
  refine R_get z57_4 (k := 0) (f := 3) (by decide +kernel) rfl rfl ?_
  refine R_iload z57_7 rfl ?_
  refine R_ild z57_8 (n := 16) (f := A 5) (v := (A 5 c)) rfl (nin hc (by decide)) (by rw [ncl (by omega)]) ?_
  refine R_aload z57_9 rfl ?_
  refine R_iload z57_10 rfl ?_
  refine R_cv z57_11 (k := 58) (by decide +kernel) rfl rfl (by decide +kernel) (Nat.le_of_ble_eq_true (by rfl)) rfl ⟨rfl, trivial⟩ ?_
  refine s58 hW hc (jBk_ret rfl ⟨rfl, rfl⟩ ?_)
  refine R_imul z57_14 ?_
  refine R_istore z57_15 (loc' := [some (.ref 0), some (.int (nI c)), some (.int ((A 5 c) * (nI (cCnt A V c 20))))]) rfl rfl ?_
  refine R_iconst z57_16 (v := 0) (by decide) ?_
  refine R_iload z57_17 rfl ?_
  refine R_aload z57_18 rfl ?_
  refine R_get z57_19 (k := 3) (f := 0) (by decide +kernel) rfl rfl ?_
  refine R_get z57_22 (k := 0) (f := 7) (by decide +kernel) rfl rfl ?_
  refine R_iload z57_25 rfl ?_
  refine R_ild z57_26 (n := 16) (f := A 9) (v := (A 9 c)) rfl (nin hc (by decide)) (by rw [ncl (by omega)]) ?_
  refine R_isub z57_27 ?_
  refine R_cs z57_28 (k := 1) (kind := 1) (by decide +kernel) (by decide) rfl rfl (by decide +kernel) (Nat.le_of_ble_eq_true (by rfl)) rfl ?_
  refine s1 (fun g => jBk_ret rfl ⟨rfl, rfl⟩ ?_) (fun g => jBk_ret rfl ⟨rfl, rfl⟩ ?_)
  · exact R_iret z57_31 (Or.inl (by decide +kernel)) ⟨Nat.zero_le _, Nat.zero_le _⟩ (by have e : cRoom A V c = _ := if_pos g; rw [e] at hQ; exact hQ)
  · exact R_iret z57_31 (Or.inl (by decide +kernel)) ⟨Nat.zero_le _, Nat.zero_le _⟩ (by have e : cRoom A V c = _ := if_neg g; rw [e] at hQ; exact hQ)
/-- why a person is barred: 0 to 3 -/
noncomputable def cWhy (A : Nat → Nat → Int32) (V : Nat → Int32) (n p c : Nat) : Nat := @ite _ (∃ o, o < n ∧ jbit (A 6 c) (nI o) ∧ ¬ cHold A V p o) (Classical.propDecidable _) 1 (if jbit (A 8 c) (nI p) then 2 else if ¬ A 17 (16 * p + c) < 3 ∧ ¬ V 1 ≤ V 0 - A 16 (16 * p + c) then 3 else 0)
theorem s55_b {l : Launch} {E : jEnv} {A : Nat → Nat → Int32} {V : Nat → Int32} {O : Nat → Int64} {Q : jO → List jC → Prop} {p c n r : Nat} (hW : cWf A V n r) (hp2 : p < 20) (hc : c < 16) (e0 : cWhy A V n p c = (if jbit (A 8 c) (nI p) then 2 else if ¬ A 17 (16 * p + c) < 3 ∧ ¬ V 1 ≤ V 0 - A 16 (16 * p + c) then 3 else 0)) (g2 : ¬ jbit (A 8 c) (nI p)) (hQ : Q (.inl (some (.int (nI (cWhy A V n p c))))) (hp A V O)) : GO l E 55 24 [some (.ref 0), some (.int (nI p)), some (.int (nI c)), none, none] [.int 0] (hp A V O) 0 0 Q := by
  rw [e0, if_neg g2] at hQ
  refine R_if z55_24 (tn := 29) rfl (fun (h24 : (0 : Int32) = 0) => ?_) (fun q => absurd (show (0 : Int32) = 0 from rfl) q)
  refine R_iload z55_29 rfl ?_
  refine R_iload z55_30 rfl ?_
  refine R_cs z55_31 (k := 48) (kind := 1) (by decide +kernel) (by decide) rfl rfl (by decide +kernel) (Nat.le_of_ble_eq_true (by rfl)) rfl ?_
  refine s48 (jBk_ret rfl ⟨rfl, rfl⟩ ?_)
  refine R_top (y := nI (16 * p + c)) (npair p c) ?_
  refine R_istore z55_34 (loc' := [some (.ref 0), some (.int (nI p)), some (.int (nI c)), some (.int (nI (16 * p + c))), none]) rfl rfl ?_
  refine R_aload z55_35 rfl ?_
  refine R_get z55_36 (k := 3) (f := 1) (by decide +kernel) rfl rfl ?_
  refine R_get z55_39 (k := 1) (f := 5) (by decide +kernel) rfl rfl ?_
  refine R_iload z55_42 rfl ?_
  refine R_ild z55_43 (n := 320) (f := A 17) (v := (A 17 (16 * p + c))) rfl (nin (by omega) (by decide)) (by rw [ncl (by omega)]) ?_
  refine R_iconst z55_44 (v := 3) (by decide) ?_
  refine R_icmp z55_45 (tn := 52) rfl (fun (h45 : ((A 17 (16 * p + c)) : Int32) < 3) => ?_) (fun (h45 : ¬ ((A 17 (16 * p + c)) : Int32) < 3) => ?_)
  · refine R_iconst z55_52 (v := 0) (by decide) ?_
    refine R_istore z55_53 (loc' := [some (.ref 0), some (.int (nI p)), some (.int (nI c)), some (.int (nI (16 * p + c))), some (.int 0)]) rfl rfl ?_
    refine R_iload z55_55 rfl ?_
    refine R_if z55_57 (tn := 83) rfl (fun _ => ?_) (fun q => absurd (show (0 : Int32) = 0 by decide) q)
    refine R_iconst z55_83 (v := 0) (by decide) ?_
    exact R_iret z55_84 (Or.inl (by decide +kernel)) ⟨Nat.zero_le _, Nat.zero_le _⟩ (by rw [if_neg (fun z => z.1 h45)] at hQ; exact hQ)
  · refine R_iconst z55_48 (v := 1) (by decide) ?_
    refine R_goto z55_49 (tn := 53) rfl ?_
    refine R_istore z55_53 (loc' := [some (.ref 0), some (.int (nI p)), some (.int (nI c)), some (.int (nI (16 * p + c))), some (.int 1)]) rfl rfl ?_
    refine R_iload z55_55 rfl ?_
    refine R_if z55_57 (tn := 83) rfl (fun q => absurd (show (1 : Int32) = 0 from q) (by decide)) (fun _ => ?_)
    refine R_aload z55_60 rfl ?_
    refine R_get z55_61 (k := 3) (f := 3) (by decide +kernel) rfl rfl ?_
    refine R_aload z55_64 rfl ?_
    refine R_get z55_65 (k := 3) (f := 1) (by decide +kernel) rfl rfl ?_
    refine R_get z55_68 (k := 1) (f := 4) (by decide +kernel) rfl rfl ?_
    refine R_iload z55_71 rfl ?_
    refine R_ild z55_72 (n := 320) (f := A 16) (v := (A 16 (16 * p + c))) rfl (nin (by omega) (by decide)) (by rw [ncl (by omega)]) ?_
    refine R_isub z55_73 ?_
    refine R_aload z55_74 rfl ?_
    refine R_get z55_75 (k := 3) (f := 4) (by decide +kernel) rfl rfl ?_
    refine R_icmp z55_78 (tn := 83) rfl (fun (h78 : ((V 1) : Int32) ≤ ((V 0) - (A 16 (16 * p + c)))) => ?_) (fun (h78 : ¬ ((V 1) : Int32) ≤ ((V 0) - (A 16 (16 * p + c)))) => ?_)
    · refine R_iconst z55_83 (v := 0) (by decide) ?_
      exact R_iret z55_84 (Or.inl (by decide +kernel)) ⟨Nat.zero_le _, Nat.zero_le _⟩ (by rw [if_neg (fun z => z.2 h78)] at hQ; exact hQ)
    · refine R_iconst z55_81 (v := 3) (by decide) ?_
      exact R_iret z55_82 (Or.inl (by decide +kernel)) ⟨Nat.zero_le _, Nat.zero_le _⟩ (by rw [if_pos ⟨h45, h78⟩] at hQ; exact hQ)
theorem s55 {l : Launch} {E : jEnv} {A : Nat → Nat → Int32} {V : Nat → Int32} {O : Nat → Int64} {Q : jO → List jC → Prop} {p c n r : Nat} (hW : cWf A V n r) (hp2 : p < 20) (hc : c < 16) (hQ : Q (.inl (some (.int (nI (cWhy A V n p c))))) (hp A V O)) : GO l E 55 0 [some (.ref 0), some (.int (nI p)), some (.int (nI c)), none, none] [] (hp A V O) 0 0 Q := by
  refine R_aload z55_0 rfl ?_
  refine R_iload z55_1 rfl ?_
  refine R_iload z55_2 rfl ?_
  refine R_cv z55_3 (k := 56) (by decide +kernel) rfl rfl (by decide +kernel) (Nat.le_of_ble_eq_true (by rfl)) rfl ⟨rfl, trivial⟩ ?_
  refine s56 hW hp2 hc (fun g => jBk_ret rfl ⟨rfl, rfl⟩ ?_) (fun g => jBk_ret rfl ⟨rfl, rfl⟩ ?_)
  · refine R_if z55_6 (tn := 11) rfl (fun (h6 : ¬ (1 : Int32) = 0) => ?_) (fun q => absurd (show ¬ (1 : Int32) = 0 by decide) q)
    have e0 : cWhy A V n p c = (if jbit (A 8 c) (nI p) then 2 else if ¬ A 17 (16 * p + c) < 3 ∧ ¬ V 1 ≤ V 0 - A 16 (16 * p + c) then 3 else 0) := if_neg (fun ⟨o, a, b, q⟩ => q (g o a b))
    refine R_aload z55_11 rfl ?_
    refine R_get z55_12 (k := 3) (f := 0) (by decide +kernel) rfl rfl ?_
    refine R_get z55_15 (k := 0) (f := 6) (by decide +kernel) rfl rfl ?_
    refine R_iload z55_18 rfl ?_
    refine R_ild z55_19 (n := 16) (f := A 8) (v := (A 8 c)) rfl (nin hc (by decide)) (by rw [ncl (by omega)]) ?_
    refine R_iload z55_20 rfl ?_
    refine R_cs z55_21 (k := 49) (kind := 1) (by decide +kernel) (by decide) rfl rfl (by decide +kernel) (Nat.le_of_ble_eq_true (by rfl)) rfl ?_
    refine s49 (fun g2 => jBk_ret rfl ⟨rfl, rfl⟩ ?_) (fun g2 => jBk_ret rfl ⟨rfl, rfl⟩ ?_)
    · refine R_if z55_24 (tn := 29) rfl (fun q => absurd q (show ¬ (1 : Int32) = 0 by decide)) (fun (h24 : ¬ (1 : Int32) = 0) => ?_)
      refine R_iconst z55_27 (v := 2) (by decide) ?_
      exact R_iret z55_28 (Or.inl (by decide +kernel)) ⟨Nat.zero_le _, Nat.zero_le _⟩ (by rw [e0, if_pos g2] at hQ; exact hQ)
    · exact s55_b hW hp2 hc e0 g2 hQ
  · refine R_if z55_6 (tn := 11) rfl (fun q => absurd rfl q) (fun _ => ?_)
    refine R_iconst z55_9 (v := 1) (by decide) ?_
    exact R_iret z55_10 (Or.inl (by decide +kernel)) ⟨Nat.zero_le _, Nat.zero_le _⟩ (by have e : cWhy A V n p c = 1 := if_pos g; rw [e] at hQ; exact hQ)
end
section
def cNote (A : Nat → Nat → Int32) (c : Nat) : Nat → Nat → Int32 := va_up (va_up A 10 (upd (A 10) c 1)) 9 (upd (A 9) c (A 9 c + 1))
theorem s8 {l : Launch} {E : jEnv} {A : Nat → Nat → Int32} {V : Nat → Int32} {O : Nat → Int64} {Q : jO → List jC → Prop} {c : Nat} (hc : c < 16) (hQ : Q (.inl none) (hp (cNote A c) V O)) : GO l E 8 0 [some (.ref 1), some (.int (nI c))] [] (hp A V O) 0 0 Q := by
  refine R_aload z8_0 rfl ?_
  refine R_get z8_1 (k := 0) (f := 8) (by decide +kernel) rfl rfl ?_
  refine R_iload z8_4 rfl ?_
  refine R_iconst z8_5 (v := 1) (by decide) ?_
  refine R_zst z8_6 (n := 16) (f := A 10) (h' := hp (va_up A 10 (upd (A 10) c 1)) V O) rfl (nin hc (by decide)) (by rw [ncl (by omega)]; rfl) ?_
  refine R_aload z8_7 rfl ?_
  refine R_get z8_8 (k := 0) (f := 7) (by decide +kernel) rfl rfl ?_
  refine R_iload z8_11 rfl ?_
  refine R_dup2 z8_12 ?_
  refine R_ild z8_13 (n := 16) (f := (va_up A 10 (upd (A 10) c 1)) 9) (v := (A 9 c)) rfl (nin hc (by decide)) (by rw [ncl (by omega)]; rfl) ?_
  refine R_iconst z8_14 (v := 1) (by decide) ?_
  refine R_iadd z8_15 ?_
  refine R_ist z8_16 (n := 16) (f := (va_up A 10 (upd (A 10) c 1)) 9) (h' := hp (cNote A c) V O) rfl (nin hc (by decide)) (by rw [ncl (by omega)]; rfl) ?_
  exact R_vret z8_17 ⟨Nat.zero_le _, Nat.zero_le _⟩ (hQ)
def cAdd0 (A : Nat → Nat → Int32) (q r : Nat) (d : Int32) : Nat → Nat → Int32 := va_up (va_up (va_up A 12 (upd (A 12) r d)) 13 (upd (A 13) r (A 15 q))) 16 (upd (A 16) q d)
def cAddP (A : Nat → Nat → Int32) (q r : Nat) (d : Int32) : Nat → Nat → Int32 := va_up (va_up (cAdd0 A q r d) 15 (upd (A 15) q (nI r))) 17 (upd (A 17) q 0)
def cAddF (A : Nat → Nat → Int32) (q r : Nat) (d : Int32) : Nat → Nat → Int32 := va_up (cAdd0 A q r d) 17 (upd (A 17) q (A 17 q + 1))
theorem s12p {l : Launch} {E : jEnv} {A : Nat → Nat → Int32} {V : Nat → Int32} {O : Nat → Int64} {Q : jO → List jC → Prop} {q r : Nat} {d : Int32} (hr : V 3 = nI r) (hr3 : r < 300) (hq : q < 320) (hQ : Q (.inl (some (.int (nI r)))) (hp (cAddP A q r d) (va_up (va_up V 3 (nI (r + 1))) 4 (V 4 + 1)) O)) : GO l E 12 0 [some (.ref 11), some (.int (nI q)), some (.int d), some (.int 1), none] [] (hp A V O) 0 0 Q := by
  refine R_aload z12_0 rfl ?_
  refine R_get z12_1 (k := 1) (f := 7) (by decide +kernel) rfl rfl ?_
  refine R_top (y := nI r) (hr) ?_
  refine R_istore z12_4 (loc' := [some (.ref 11), some (.int (nI q)), some (.int d), some (.int 1), some (.int (nI r))]) rfl rfl ?_
  refine R_aload z12_6 rfl ?_
  refine R_dup z12_7 ?_
  refine R_get z12_8 (k := 1) (f := 7) (by decide +kernel) rfl rfl ?_
  refine R_iconst z12_11 (v := 1) (by decide) ?_
  refine R_iadd z12_12 ?_
  refine R_top (y := nI (r + 1)) (by rw [hr, nI_1]) ?_
  refine R_puti z12_13 (k := 1) (f := 7) (h' := hp A (va_up V 3 (nI (r + 1))) O) (by decide +kernel) (by decide +kernel) rfl (Nat.le_of_ble_eq_true rfl) rfl ?_
  refine R_aload z12_16 rfl ?_
  refine R_get z12_17 (k := 1) (f := 0) (by decide +kernel) rfl rfl ?_
  refine R_iload z12_20 rfl ?_
  refine R_iload z12_22 rfl ?_
  refine R_ist z12_23 (n := 300) (f := A 12) (h' := hp (va_up A 12 (upd (A 12) r d)) (va_up V 3 (nI (r + 1))) O) rfl (nin hr3 (by decide)) (by rw [ncl (by omega)]; rfl) ?_
  refine R_aload z12_24 rfl ?_
  refine R_get z12_25 (k := 1) (f := 1) (by decide +kernel) rfl rfl ?_
  refine R_iload z12_28 rfl ?_
  refine R_aload z12_30 rfl ?_
  refine R_get z12_31 (k := 1) (f := 3) (by decide +kernel) rfl rfl ?_
  refine R_iload z12_34 rfl ?_
  refine R_ild z12_35 (n := 320) (f := (va_up A 12 (upd (A 12) r d)) 15) (v := (A 15 q)) rfl (nin hq (by decide)) (by rw [ncl (by omega)]; rfl) ?_
  refine R_ist z12_36 (n := 300) (f := (va_up A 12 (upd (A 12) r d)) 13) (h' := hp (va_up (va_up A 12 (upd (A 12) r d)) 13 (upd (A 13) r (A 15 q))) (va_up V 3 (nI (r + 1))) O) rfl (nin hr3 (by decide)) (by rw [ncl (by omega)]; rfl) ?_
  refine R_aload z12_37 rfl ?_
  refine R_get z12_38 (k := 1) (f := 4) (by decide +kernel) rfl rfl ?_
  refine R_iload z12_41 rfl ?_
  refine R_iload z12_42 rfl ?_
  refine R_ist z12_43 (n := 320) (f := (va_up (va_up A 12 (upd (A 12) r d)) 13 (upd (A 13) r (A 15 q))) 16) (h' := hp (cAdd0 A q r d) (va_up V 3 (nI (r + 1))) O) rfl (nin hq (by decide)) (by rw [ncl (by omega)]; rfl) ?_
  refine R_iload z12_44 rfl ?_
  refine R_if z12_45 (tn := 76) rfl (fun q => absurd (show (1 : Int32) = 0 from q) (by decide)) (fun _ => ?_)
  refine R_aload z12_48 rfl ?_
  refine R_dup z12_49 ?_
  refine R_get z12_50 (k := 1) (f := 8) (by decide +kernel) rfl rfl ?_
  refine R_iconst z12_53 (v := 1) (by decide) ?_
  refine R_iadd z12_54 ?_
  refine R_puti z12_55 (k := 1) (f := 8) (h' := hp (cAdd0 A q r d) (va_up (va_up V 3 (nI (r + 1))) 4 (((va_up V 3 (nI (r + 1))) 4) + 1)) O) (by decide +kernel) (by decide +kernel) rfl (Nat.le_of_ble_eq_true rfl) rfl ?_
  refine R_aload z12_58 rfl ?_
  refine R_get z12_59 (k := 1) (f := 3) (by decide +kernel) rfl rfl ?_
  refine R_iload z12_62 rfl ?_
  refine R_iload z12_63 rfl ?_
  refine R_ist z12_65 (n := 320) (f := (cAdd0 A q r d) 15) (h' := hp (va_up (cAdd0 A q r d) 15 (upd (A 15) q (nI r))) (va_up (va_up V 3 (nI (r + 1))) 4 (((va_up V 3 (nI (r + 1))) 4) + 1)) O) rfl (nin hq (by decide)) (by rw [ncl (by omega)]; rfl) ?_
  refine R_aload z12_66 rfl ?_
  refine R_get z12_67 (k := 1) (f := 5) (by decide +kernel) rfl rfl ?_
  refine R_iload z12_70 rfl ?_
  refine R_iconst z12_71 (v := 0) (by decide) ?_
  refine R_ist z12_72 (n := 320) (f := (va_up (cAdd0 A q r d) 15 (upd (A 15) q (nI r))) 17) (h' := hp (cAddP A q r d) (va_up (va_up V 3 (nI (r + 1))) 4 (((va_up V 3 (nI (r + 1))) 4) + 1)) O) rfl (nin hq (by decide)) (by rw [ncl (by omega)]; rfl) ?_
  refine R_goto z12_73 (tn := 86) rfl ?_
  refine R_iload z12_86 rfl ?_
  exact R_iret z12_88 (Or.inl (by decide +kernel)) ⟨Nat.zero_le _, Nat.zero_le _⟩ (hQ)
theorem s12f {l : Launch} {E : jEnv} {A : Nat → Nat → Int32} {V : Nat → Int32} {O : Nat → Int64} {Q : jO → List jC → Prop} {q r : Nat} {d : Int32} (hr : V 3 = nI r) (hr3 : r < 300) (hq : q < 320) (hQ : Q (.inl (some (.int (nI r)))) (hp (cAddF A q r d) (va_up V 3 (nI (r + 1))) O)) : GO l E 12 0 [some (.ref 11), some (.int (nI q)), some (.int d), some (.int 0), none] [] (hp A V O) 0 0 Q := by
  refine R_aload z12_0 rfl ?_
  refine R_get z12_1 (k := 1) (f := 7) (by decide +kernel) rfl rfl ?_
  refine R_top (y := nI r) (hr) ?_
  refine R_istore z12_4 (loc' := [some (.ref 11), some (.int (nI q)), some (.int d), some (.int 0), some (.int (nI r))]) rfl rfl ?_
  refine R_aload z12_6 rfl ?_
  refine R_dup z12_7 ?_
  refine R_get z12_8 (k := 1) (f := 7) (by decide +kernel) rfl rfl ?_
  refine R_iconst z12_11 (v := 1) (by decide) ?_
  refine R_iadd z12_12 ?_
  refine R_top (y := nI (r + 1)) (by rw [hr, nI_1]) ?_
  refine R_puti z12_13 (k := 1) (f := 7) (h' := hp A (va_up V 3 (nI (r + 1))) O) (by decide +kernel) (by decide +kernel) rfl (Nat.le_of_ble_eq_true rfl) rfl ?_
  refine R_aload z12_16 rfl ?_
  refine R_get z12_17 (k := 1) (f := 0) (by decide +kernel) rfl rfl ?_
  refine R_iload z12_20 rfl ?_
  refine R_iload z12_22 rfl ?_
  refine R_ist z12_23 (n := 300) (f := A 12) (h' := hp (va_up A 12 (upd (A 12) r d)) (va_up V 3 (nI (r + 1))) O) rfl (nin hr3 (by decide)) (by rw [ncl (by omega)]; rfl) ?_
  refine R_aload z12_24 rfl ?_
  refine R_get z12_25 (k := 1) (f := 1) (by decide +kernel) rfl rfl ?_
  refine R_iload z12_28 rfl ?_
  refine R_aload z12_30 rfl ?_
  refine R_get z12_31 (k := 1) (f := 3) (by decide +kernel) rfl rfl ?_
  refine R_iload z12_34 rfl ?_
  refine R_ild z12_35 (n := 320) (f := (va_up A 12 (upd (A 12) r d)) 15) (v := (A 15 q)) rfl (nin hq (by decide)) (by rw [ncl (by omega)]; rfl) ?_
  refine R_ist z12_36 (n := 300) (f := (va_up A 12 (upd (A 12) r d)) 13) (h' := hp (va_up (va_up A 12 (upd (A 12) r d)) 13 (upd (A 13) r (A 15 q))) (va_up V 3 (nI (r + 1))) O) rfl (nin hr3 (by decide)) (by rw [ncl (by omega)]; rfl) ?_
  refine R_aload z12_37 rfl ?_
  refine R_get z12_38 (k := 1) (f := 4) (by decide +kernel) rfl rfl ?_
  refine R_iload z12_41 rfl ?_
  refine R_iload z12_42 rfl ?_
  refine R_ist z12_43 (n := 320) (f := (va_up (va_up A 12 (upd (A 12) r d)) 13 (upd (A 13) r (A 15 q))) 16) (h' := hp (cAdd0 A q r d) (va_up V 3 (nI (r + 1))) O) rfl (nin hq (by decide)) (by rw [ncl (by omega)]; rfl) ?_
  refine R_iload z12_44 rfl ?_
  refine R_if z12_45 (tn := 76) rfl (fun _ => ?_) (fun q => absurd (show (0 : Int32) = 0 by decide) q)
  refine R_aload z12_76 rfl ?_
  refine R_get z12_77 (k := 1) (f := 5) (by decide +kernel) rfl rfl ?_
  refine R_iload z12_80 rfl ?_
  refine R_dup2 z12_81 ?_
  refine R_ild z12_82 (n := 320) (f := (cAdd0 A q r d) 17) (v := (A 17 q)) rfl (nin hq (by decide)) (by rw [ncl (by omega)]; rfl) ?_
  refine R_iconst z12_83 (v := 1) (by decide) ?_
  refine R_iadd z12_84 ?_
  refine R_ist z12_85 (n := 320) (f := (cAdd0 A q r d) 17) (h' := hp (cAddF A q r d) (va_up V 3 (nI (r + 1))) O) rfl (nin hq (by decide)) (by rw [ncl (by omega)]; rfl) ?_
  refine R_iload z12_86 rfl ?_
  exact R_iret z12_88 (Or.inl (by decide +kernel)) ⟨Nat.zero_le _, Nat.zero_le _⟩ (hQ)
theorem s51p {l : Launch} {E : jEnv} {A : Nat → Nat → Int32} {V : Nat → Int32} {O : Nat → Int64} {Q : jO → List jC → Prop} {p c r : Nat} (hr : V 3 = nI r) (hr3 : r < 300) (hp2 : p < 20) (hc : c < 16) (hQ : Q (.inl (some (.int (nI r)))) (hp (cAddP (cNote A c) (16 * p + c) r (V 0)) (va_up (va_up V 3 (nI (r + 1))) 4 (V 4 + 1)) O)) : GO l E 51 0 [some (.ref 0), some (.int (nI p)), some (.int (nI c)), some (.int 1)] [] (hp A V O) 0 0 Q := by
  refine R_aload z51_0 rfl ?_
  refine R_get z51_1 (k := 3) (f := 0) (by decide +kernel) rfl rfl ?_
  refine R_iload z51_4 rfl ?_
  refine R_cv z51_5 (k := 8) (by decide +kernel) rfl rfl (by decide +kernel) (Nat.le_of_ble_eq_true (by rfl)) rfl ⟨rfl, trivial⟩ ?_
  refine s8 hc (jBk_ret rfl ⟨rfl, rfl⟩ ?_)
  refine R_aload z51_8 rfl ?_
  refine R_get z51_9 (k := 3) (f := 1) (by decide +kernel) rfl rfl ?_
  refine R_iload z51_12 rfl ?_
  refine R_iload z51_13 rfl ?_
  refine R_cs z51_14 (k := 48) (kind := 1) (by decide +kernel) (by decide) rfl rfl (by decide +kernel) (Nat.le_of_ble_eq_true (by rfl)) rfl ?_
  refine s48 (jBk_ret rfl ⟨rfl, rfl⟩ ?_)
  refine R_top (y := nI (16 * p + c)) (npair p c) ?_
  refine R_aload z51_17 rfl ?_
  refine R_get z51_18 (k := 3) (f := 3) (by decide +kernel) rfl rfl ?_
  refine R_iload z51_21 rfl ?_
  refine R_cv z51_22 (k := 12) (by decide +kernel) rfl rfl (by decide +kernel) (Nat.le_of_ble_eq_true (by rfl)) rfl ⟨rfl, trivial⟩ ?_
  refine s12p hr hr3 (by omega) (jBk_ret rfl ⟨rfl, rfl⟩ ?_)
  exact R_iret z51_25 (Or.inl (by decide +kernel)) ⟨Nat.zero_le _, Nat.zero_le _⟩ (hQ)
theorem s51f {l : Launch} {E : jEnv} {A : Nat → Nat → Int32} {V : Nat → Int32} {O : Nat → Int64} {Q : jO → List jC → Prop} {p c r : Nat} (hr : V 3 = nI r) (hr3 : r < 300) (hp2 : p < 20) (hc : c < 16) (hQ : Q (.inl (some (.int (nI r)))) (hp (cAddF (cNote A c) (16 * p + c) r (V 0)) (va_up V 3 (nI (r + 1))) O)) : GO l E 51 0 [some (.ref 0), some (.int (nI p)), some (.int (nI c)), some (.int 0)] [] (hp A V O) 0 0 Q := by
  refine R_aload z51_0 rfl ?_
  refine R_get z51_1 (k := 3) (f := 0) (by decide +kernel) rfl rfl ?_
  refine R_iload z51_4 rfl ?_
  refine R_cv z51_5 (k := 8) (by decide +kernel) rfl rfl (by decide +kernel) (Nat.le_of_ble_eq_true (by rfl)) rfl ⟨rfl, trivial⟩ ?_
  refine s8 hc (jBk_ret rfl ⟨rfl, rfl⟩ ?_)
  refine R_aload z51_8 rfl ?_
  refine R_get z51_9 (k := 3) (f := 1) (by decide +kernel) rfl rfl ?_
  refine R_iload z51_12 rfl ?_
  refine R_iload z51_13 rfl ?_
  refine R_cs z51_14 (k := 48) (kind := 1) (by decide +kernel) (by decide) rfl rfl (by decide +kernel) (Nat.le_of_ble_eq_true (by rfl)) rfl ?_
  refine s48 (jBk_ret rfl ⟨rfl, rfl⟩ ?_)
  refine R_top (y := nI (16 * p + c)) (npair p c) ?_
  refine R_aload z51_17 rfl ?_
  refine R_get z51_18 (k := 3) (f := 3) (by decide +kernel) rfl rfl ?_
  refine R_iload z51_21 rfl ?_
  refine R_cv z51_22 (k := 12) (by decide +kernel) rfl rfl (by decide +kernel) (Nat.le_of_ble_eq_true (by rfl)) rfl ⟨rfl, trivial⟩ ?_
  refine s12f hr hr3 (by omega) (jBk_ret rfl ⟨rfl, rfl⟩ ?_)
  exact R_iret z51_25 (Or.inl (by decide +kernel)) ⟨Nat.zero_le _, Nat.zero_le _⟩ (hQ)
def cUse (A : Nat → Nat → Int32) (q k : Nat) (d cap : Int32) : Nat → Nat → Int32 := if ¬ A 18 q = d ∧ ¬ cap ≤ A 14 k then va_up (va_up A 14 (upd (A 14) k (A 14 k + 1))) 18 (upd (A 18) q d) else va_up A 18 (upd (A 18) q d)
theorem s13 {l : Launch} {E : jEnv} {A : Nat → Nat → Int32} {V : Nat → Int32} {O : Nat → Int64} {Q : jO → List jC → Prop} {q k : Nat} {d cap : Int32} (hq : q < 320) (hk : k < 300) (hx : A 15 q = nI k) (hQ : Q (.inl (some (.int (cUse A q k d cap 14 k)))) (hp (cUse A q k d cap) V O)) : GO l E 13 0 [some (.ref 11), some (.int (nI q)), some (.int d), some (.int cap), none] [] (hp A V O) 0 0 Q := by
  refine R_aload z13_0 rfl ?_
  refine R_get z13_1 (k := 1) (f := 3) (by decide +kernel) rfl rfl ?_
  refine R_iload z13_4 rfl ?_
  refine R_ild z13_5 (n := 320) (f := A 15) (v := (nI k)) rfl (nin hq (by decide)) (by rw [ncl (by omega)]; exact hx) ?_
  refine R_istore z13_6 (loc' := [some (.ref 11), some (.int (nI q)), some (.int d), some (.int cap), some (.int (nI k))]) rfl rfl ?_
  refine R_iload z13_8 rfl ?_
  refine R_iconst z13_10 (v := (-1)) (by decide) ?_
  refine R_icmp z13_11 (tn := 16) rfl (fun (h11 : ¬ ((nI k) : Int32) = (-1)) => ?_) (fun q => absurd (nm1 (by omega)) q)
  refine R_aload z13_16 rfl ?_
  refine R_get z13_17 (k := 1) (f := 6) (by decide +kernel) rfl rfl ?_
  refine R_iload z13_20 rfl ?_
  refine R_ild z13_21 (n := 320) (f := A 18) (v := (A 18 q)) rfl (nin hq (by decide)) (by rw [ncl (by omega)]) ?_
  refine R_iload z13_22 rfl ?_
  refine R_icmp z13_23 (tn := 48) rfl (fun (h23 : ((A 18 q) : Int32) = d) => ?_) (fun (h23 : ¬ ((A 18 q) : Int32) = d) => ?_)
  · refine R_aload z13_48 rfl ?_
    refine R_get z13_49 (k := 1) (f := 6) (by decide +kernel) rfl rfl ?_
    refine R_iload z13_52 rfl ?_
    refine R_iload z13_53 rfl ?_
    refine R_ist z13_54 (n := 320) (f := A 18) (h' := hp (va_up A 18 (upd (A 18) q d)) V O) rfl (nin hq (by decide)) (by rw [ncl (by omega)]; rfl) ?_
    refine R_aload z13_55 rfl ?_
    refine R_get z13_56 (k := 1) (f := 2) (by decide +kernel) rfl rfl ?_
    refine R_iload z13_59 rfl ?_
    refine R_ild z13_61 (n := 300) (f := (va_up A 18 (upd (A 18) q d)) 14) (v := ((va_up A 18 (upd (A 18) q d)) 14 k)) rfl (nin hk (by decide)) (by rw [ncl (by omega)]) ?_
    exact R_iret z13_62 (Or.inl (by decide +kernel)) ⟨Nat.zero_le _, Nat.zero_le _⟩ (by have e : cUse A q k d cap = _ := if_neg (fun z => z.1 h23); rw [e] at hQ; exact hQ)
  · refine R_aload z13_26 rfl ?_
    refine R_get z13_27 (k := 1) (f := 2) (by decide +kernel) rfl rfl ?_
    refine R_iload z13_30 rfl ?_
    refine R_ild z13_32 (n := 300) (f := A 14) (v := (A 14 k)) rfl (nin hk (by decide)) (by rw [ncl (by omega)]) ?_
    refine R_iload z13_33 rfl ?_
    refine R_icmp z13_34 (tn := 48) rfl (fun (h34 : (cap : Int32) ≤ (A 14 k)) => ?_) (fun (h34 : ¬ (cap : Int32) ≤ (A 14 k)) => ?_)
    · refine R_aload z13_48 rfl ?_
      refine R_get z13_49 (k := 1) (f := 6) (by decide +kernel) rfl rfl ?_
      refine R_iload z13_52 rfl ?_
      refine R_iload z13_53 rfl ?_
      refine R_ist z13_54 (n := 320) (f := A 18) (h' := hp (va_up A 18 (upd (A 18) q d)) V O) rfl (nin hq (by decide)) (by rw [ncl (by omega)]; rfl) ?_
      refine R_aload z13_55 rfl ?_
      refine R_get z13_56 (k := 1) (f := 2) (by decide +kernel) rfl rfl ?_
      refine R_iload z13_59 rfl ?_
      refine R_ild z13_61 (n := 300) (f := (va_up A 18 (upd (A 18) q d)) 14) (v := ((va_up A 18 (upd (A 18) q d)) 14 k)) rfl (nin hk (by decide)) (by rw [ncl (by omega)]) ?_
      exact R_iret z13_62 (Or.inl (by decide +kernel)) ⟨Nat.zero_le _, Nat.zero_le _⟩ (by have e : cUse A q k d cap = _ := if_neg (fun z => z.2 h34); rw [e] at hQ; exact hQ)
    · refine R_aload z13_37 rfl ?_
      refine R_get z13_38 (k := 1) (f := 2) (by decide +kernel) rfl rfl ?_
      refine R_iload z13_41 rfl ?_
      refine R_dup2 z13_43 ?_
      refine R_ild z13_44 (n := 300) (f := A 14) (v := (A 14 k)) rfl (nin hk (by decide)) (by rw [ncl (by omega)]) ?_
      refine R_iconst z13_45 (v := 1) (by decide) ?_
      refine R_iadd z13_46 ?_
      refine R_ist z13_47 (n := 300) (f := A 14) (h' := hp (va_up A 14 (upd (A 14) k (A 14 k + 1))) V O) rfl (nin hk (by decide)) (by rw [ncl (by omega)]; rfl) ?_
      refine R_aload z13_48 rfl ?_
      refine R_get z13_49 (k := 1) (f := 6) (by decide +kernel) rfl rfl ?_
      refine R_iload z13_52 rfl ?_
      refine R_iload z13_53 rfl ?_
      refine R_ist z13_54 (n := 320) (f := (va_up A 14 (upd (A 14) k (A 14 k + 1))) 18) (h' := hp (va_up (va_up A 14 (upd (A 14) k (A 14 k + 1))) 18 (upd (A 18) q d)) V O) rfl (nin hq (by decide)) (by rw [ncl (by omega)]; rfl) ?_
      refine R_aload z13_55 rfl ?_
      refine R_get z13_56 (k := 1) (f := 2) (by decide +kernel) rfl rfl ?_
      refine R_iload z13_59 rfl ?_
      refine R_ild z13_61 (n := 300) (f := (va_up (va_up A 14 (upd (A 14) k (A 14 k + 1))) 18 (upd (A 18) q d)) 14) (v := ((va_up (va_up A 14 (upd (A 14) k (A 14 k + 1))) 18 (upd (A 18) q d)) 14 k)) rfl (nin hk (by decide)) (by rw [ncl (by omega)]) ?_
      exact R_iret z13_62 (Or.inl (by decide +kernel)) ⟨Nat.zero_le _, Nat.zero_le _⟩ (by have e : cUse A q k d cap = _ := if_pos ⟨h23, h34⟩; rw [e] at hQ; exact hQ)
/-- down the chain of passes, at most f steps: the first on a day up to d -/
def cUp (A : Nat → Nat → Int32) (d : Int32) : Nat → Int32 → Int32
  | 0, _ => -1
  | f + 1, x => if x = -1 then -1 else if d < A 12 x.toNatClampNeg then cUp A d f (A 13 x.toNatClampNeg) else x
theorem jpass_next {A : Nat → Nat → Int32} {V : Nat → Int32} {n r : Nat} (hW : cWf A V n r) {x : Int32} (hx : jpass x r) (h : ¬ x = -1) : jpass (A 13 x.toNatClampNeg) r := by
  rcases hx with hx | ⟨k, hk, rfl⟩
  · exact absurd hx h
  · have hr := hW.2.2.2.1
    rw [ncl (by omega)]
    rcases hW.2.2.2.2.2 k hk with e | ⟨j, hj, e⟩
    · exact Or.inl e
    · exact Or.inr ⟨j, by omega, e⟩
theorem s14_lp {l : Launch} {E : jEnv} {A : Nat → Nat → Int32} {V : Nat → Int32} {O : Nat → Int64} {Q : jO → List jC → Prop} {n r : Nat} {y d0 : Int32} (hW : cWf A V n r) : ∀ (d k : Nat) (x : Int32), k + d = r → jpass x r → Q (.inl (some (.int (cUp A d0 d x)))) (hp A V O) → GO l E 14 10 [some (.ref 11), some (.int y), some (.int d0), some (.int x), some (.int (nI k))] [] (hp A V O) 0 0 Q := by
  intro d
  induction d with
  | zero =>
    intro k x hk hx hQ
    have hn16 := hW.2.1
    have hr300 := hW.2.2.2.1
    refine R_iload z14_10 rfl ?_
    refine R_aload z14_12 rfl ?_
    refine R_get z14_13 (k := 1) (f := 7) (by decide +kernel) rfl rfl ?_
    refine R_icmp z14_16 (tn := 49) rfl (fun (h16 : ((V 3) : Int32) ≤ (nI k)) => ?_) (fun q => absurd ((show V 3 ≤ nI k by rw [hW.2.2.1, nge (by omega) (by omega)]; omega)) q)
    refine R_iconst z14_49 (v := (-1)) (by decide) ?_
    exact R_iret z14_50 (Or.inl (by decide +kernel)) ⟨Nat.zero_le _, Nat.zero_le _⟩ (hQ)
  | succ d ih =>
    intro k x hk hx hQ
    have hn16 := hW.2.1
    have hr300 := hW.2.2.2.1
    refine R_iload z14_10 rfl ?_
    refine R_aload z14_12 rfl ?_
    refine R_get z14_13 (k := 1) (f := 7) (by decide +kernel) rfl rfl ?_
    refine R_icmp z14_16 (tn := 49) rfl (fun q => absurd q ((show ¬ V 3 ≤ nI k by rw [hW.2.2.1, nge (by omega) (by omega)]; omega))) (fun (h16 : ¬ ((V 3) : Int32) ≤ (nI k)) => ?_)
    refine R_iload z14_19 rfl ?_
    refine R_iconst z14_20 (v := (-1)) (by decide) ?_
    refine R_icmp z14_21 (tn := 49) rfl (fun (h21 : (x : Int32) = (-1)) => ?_) (fun (h21 : ¬ (x : Int32) = (-1)) => ?_)
    · refine R_iconst z14_49 (v := (-1)) (by decide) ?_
      exact R_iret z14_50 (Or.inl (by decide +kernel)) ⟨Nat.zero_le _, Nat.zero_le _⟩ (by rw [cUp, if_pos h21] at hQ; exact hQ)
    · refine R_aload z14_24 rfl ?_
      refine R_get z14_25 (k := 1) (f := 0) (by decide +kernel) rfl rfl ?_
      refine R_iload z14_28 rfl ?_
      refine R_ild z14_29 (n := 300) (f := A 12) (v := (A 12 (x).toNatClampNeg)) rfl (jpass_in hx h21 hr300 (by decide)) (rfl) ?_
      refine R_iload z14_30 rfl ?_
      refine R_icmp z14_31 (tn := 36) rfl (fun (h31 : (d0 : Int32) < (A 12 (x).toNatClampNeg)) => ?_) (fun (h31 : ¬ (d0 : Int32) < (A 12 (x).toNatClampNeg)) => ?_)
      · refine R_aload z14_36 rfl ?_
        refine R_get z14_37 (k := 1) (f := 1) (by decide +kernel) rfl rfl ?_
        refine R_iload z14_40 rfl ?_
        refine R_ild z14_41 (n := 300) (f := A 13) (v := (A 13 (x).toNatClampNeg)) rfl (jpass_in hx h21 hr300 (by decide)) (rfl) ?_
        refine R_istore z14_42 (loc' := [some (.ref 11), some (.int y), some (.int d0), some (.int (A 13 (x).toNatClampNeg)), some (.int (nI k))]) rfl rfl ?_
        refine R_iinc z14_43 (v := 1) (loc' := [some (.ref 11), some (.int y), some (.int d0), some (.int (A 13 (x).toNatClampNeg)), some (.int (nI (k + 1)))]) rfl rfl (by decide) (by rw [nI_1]; rfl) ?_
        refine R_goto z14_46 (tn := 10) rfl ?_
        rw [cUp, if_neg h21, if_pos (show d0 < A 12 x.toNatClampNeg from h31)] at hQ
        exact ih (k + 1) _ (by omega) (jpass_next hW hx h21) hQ
      · refine R_iload z14_34 rfl ?_
        exact R_iret z14_35 (Or.inl (by decide +kernel)) ⟨Nat.zero_le _, Nat.zero_le _⟩ (by rw [cUp, if_neg h21, if_neg h31] at hQ; exact hQ)
theorem s14 {l : Launch} {E : jEnv} {A : Nat → Nat → Int32} {V : Nat → Int32} {O : Nat → Int64} {Q : jO → List jC → Prop} {q n r : Nat} {d0 : Int32} (hW : cWf A V n r) (hq : q < 320) (hQ : Q (.inl (some (.int (cUp A d0 r (A 15 q))))) (hp A V O)) : GO l E 14 0 [some (.ref 11), some (.int (nI q)), some (.int d0), none, none] [] (hp A V O) 0 0 Q := by
  refine R_aload z14_0 rfl ?_
  refine R_get z14_1 (k := 1) (f := 3) (by decide +kernel) rfl rfl ?_
  refine R_iload z14_4 rfl ?_
  refine R_ild z14_5 (n := 320) (f := A 15) (v := (A 15 q)) rfl (nin hq (by decide)) (by rw [ncl (by omega)]) ?_
  refine R_istore z14_6 (loc' := [some (.ref 11), some (.int (nI q)), some (.int d0), some (.int (A 15 q)), none]) rfl rfl ?_
  refine R_iconst z14_7 (v := 0) (by decide) ?_
  refine R_istore z14_8 (loc' := [some (.ref 11), some (.int (nI q)), some (.int d0), some (.int (A 15 q)), some (.int 0)]) rfl rfl ?_
  exact s14_lp hW r 0 _ (by omega) (hW.2.2.2.2.1 q hq) hQ
end
section
/-- the first k places are v -/
def jfil (f : Nat → Int32) (v : Int32) (k : Nat) : Nat → Int32 := fun j => if j < k then v else f j
theorem jfil_0 {f : Nat → Int32} {v : Int32} : jfil f v 0 = f := by funext j; simp [jfil]
theorem jfil_s {f : Nat → Int32} {v : Int32} {k : Nat} : upd (jfil f v k) k v = jfil f v (k + 1) := by
  funext j
  unfold upd jfil
  by_cases h : j = k
  · subst h; rw [if_pos rfl, if_pos (by omega)]
  · rw [if_neg h]
    by_cases h2 : j < k
    · rw [if_pos h2, if_pos (by omega)]
    · rw [if_neg h2, if_neg (by omega)]
theorem s0_lp {l : Launch} {E : jEnv} {h : List jC} {a n : Nat} {v : Int32} {f : Nat → Int32} {Q : jO → List jC → Prop} (ha : a < h.length) (hn : n ≤ 15000) (hQ : Q (.inl none) (h.set a (.inl (0, n, .inl (jfil f v n))))) : ∀ (d k : Nat), k + d = n → GO l E 0 5 [some (.ref a), some (.int v), some (.int (nI k)), some (.int (nI n))] [] (h.set a (.inl (0, n, .inl (jfil f v k)))) 0 0 Q := by
  intro d
  induction d with
  | zero =>
    intro k hk
    refine R_iload z0_5 rfl ?_
    refine R_iload z0_6 rfl ?_
    refine R_icmp z0_7 (tn := 20) rfl (fun _ => ?_) (fun q => absurd (show nI n ≤ nI k by rw [nge (by omega) (by omega)]; omega) q)
    refine R_vret z0_20 ⟨Nat.zero_le _, Nat.zero_le _⟩ ?_
    rw [show k = n by omega]; exact hQ
  | succ d ih =>
    intro k hk
    refine R_iload z0_5 rfl ?_
    refine R_iload z0_6 rfl ?_
    refine R_icmp z0_7 (tn := 20) rfl (fun q => absurd q (show ¬ nI n ≤ nI k by rw [nge (by omega) (by omega)]; omega)) (fun _ => ?_)
    refine R_aload z0_10 rfl ?_
    refine R_iload z0_11 rfl ?_
    refine R_iload z0_12 rfl ?_
    refine R_ist z0_13 (n := n) (f := jfil f v k) (h' := h.set a (.inl (0, n, .inl (jfil f v (k + 1))))) (List.getElem?_set_self ha) (nin (by omega) hn) (by rw [ncl (by omega), jfil_s, List.set_set]) ?_
    refine R_iinc z0_14 (v := 1) (loc' := [some (.ref a), some (.int v), some (.int (nI (k + 1))), some (.int (nI n))]) rfl rfl (by decide) (by rw [nI_1]; rfl) ?_
    refine R_goto z0_17 (tn := 5) rfl ?_
    exact ih (k + 1) (by omega)
theorem s0 {l : Launch} {E : jEnv} {h : List jC} {a n : Nat} {v : Int32} {f : Nat → Int32} {Q : jO → List jC → Prop} (ho : h[a]? = some (.inl (0, n, .inl f))) (hn : n ≤ 15000) (hQ : Q (.inl none) (h.set a (.inl (0, n, .inl (jfil f v n))))) : GO l E 0 0 [some (.ref a), some (.int v), none, none] [] h 0 0 Q := by
  have ha : a < h.length := (List.getElem?_eq_some_iff.mp ho).1
  have e : h = h.set a (.inl (0, n, .inl (jfil f v 0))) := by
    rw [jfil_0]
    refine List.ext_getElem? fun j => ?_
    by_cases hj : a = j
    · subst hj; rw [List.getElem?_set_self ha, ho]
    · rw [List.getElem?_set_ne hj]
  refine R_iconst z0_0 (v := 0) (by decide) ?_
  refine R_istore z0_1 (loc' := [some (.ref a), some (.int v), some (.int (nI 0)), none]) rfl rfl ?_
  refine R_aload z0_2 rfl ?_
  refine R_alen z0_3 (n := n) (f := f) (v := nI n) ho rfl ?_
  refine R_istore z0_4 (loc' := [some (.ref a), some (.int v), some (.int (nI 0)), some (.int (nI n))]) rfl rfl ?_
  have G := s0_lp (l := l) (E := E) ha hn hQ n 0 (by omega)
  rw [← e] at G
  exact G
theorem s9 {l : Launch} {E : jEnv} {A : Nat → Nat → Int32} {V : Nat → Int32} {O : Nat → Int64} {Q : jO → List jC → Prop} (hQ : Q (.inl none) (hp (va_up A 9 (jfil (A 9) 0 16)) V O)) : GO l E 9 0 [some (.ref 1)] [] (hp A V O) 0 0 Q := by
  refine R_aload z9_0 rfl ?_
  refine R_get z9_1 (k := 0) (f := 7) (by decide +kernel) rfl rfl ?_
  refine R_iconst z9_4 (v := 0) (by decide) ?_
  refine R_cs z9_5 (k := 0) (kind := 1) (by decide +kernel) (by decide) rfl rfl (by decide +kernel) (Nat.le_of_ble_eq_true (by rfl)) rfl ?_
  refine s0 (n := 16) rfl (by decide) (jBk_ret rfl ⟨rfl, rfl⟩ ?_)
  exact R_vret z9_8 ⟨Nat.zero_le _, Nat.zero_le _⟩ (hQ)
theorem s16 {l : Launch} {E : jEnv} {A : Nat → Nat → Int32} {V : Nat → Int32} {O : Nat → Int64} {Q : jO → List jC → Prop} {n : Int32} (hQ : Q (.inl none) (hp (va_up (va_up A 21 (jfil (A 21) (-1) 12)) 22 (jfil (A 22) (-1) 20)) (va_up V 5 n) O)) : GO l E 16 0 [some (.ref 19), some (.int n)] [] (hp A V O) 0 0 Q := by
  refine R_aload z16_0 rfl ?_
  refine R_iload z16_1 rfl ?_
  refine R_puti z16_2 (k := 2) (f := 5) (h' := hp A (va_up V 5 n) O) (by decide +kernel) (by decide +kernel) rfl (Nat.le_of_ble_eq_true rfl) rfl ?_
  refine R_aload z16_5 rfl ?_
  refine R_get z16_6 (k := 2) (f := 1) (by decide +kernel) rfl rfl ?_
  refine R_iconst z16_9 (v := (-1)) (by decide) ?_
  refine R_cs z16_10 (k := 0) (kind := 1) (by decide +kernel) (by decide) rfl rfl (by decide +kernel) (Nat.le_of_ble_eq_true (by rfl)) rfl ?_
  refine s0 (n := 12) rfl (by decide) (jBk_ret rfl ⟨rfl, rfl⟩ ?_)
  refine R_aload z16_13 rfl ?_
  refine R_get z16_14 (k := 2) (f := 2) (by decide +kernel) rfl rfl ?_
  refine R_iconst z16_17 (v := (-1)) (by decide) ?_
  refine R_cs z16_18 (k := 0) (kind := 1) (by decide +kernel) (by decide) rfl rfl (by decide +kernel) (Nat.le_of_ble_eq_true (by rfl)) rfl ?_
  refine s0 (n := 20) rfl (by decide) (jBk_ret rfl ⟨rfl, rfl⟩ ?_)
  exact R_vret z16_21 ⟨Nat.zero_le _, Nat.zero_le _⟩ (hQ)
def cCrs (A : Nat → Nat → Int32) (n : Nat) (t p c : Int32) : Nat → Nat → Int32 := va_up (va_up (va_up (va_up A 2 (upd (A 2) n t)) 3 (upd (A 3) n p)) 4 (upd (A 4) n c)) 5 (upd (A 5) n 3)
theorem s5 {l : Launch} {E : jEnv} {A : Nat → Nat → Int32} {V : Nat → Int32} {O : Nat → Int64} {Q : jO → List jC → Prop} {n : Nat} {t p c : Int32} (hn : V 2 = nI n) (hn2 : n < 16) (hQ : Q (.inl (some (.int (nI n)))) (hp (cCrs A n t p c) (va_up V 2 (nI (n + 1))) O)) : GO l E 5 0 [some (.ref 1), some (.int t), some (.int p), some (.int c), none] [] (hp A V O) 0 0 Q := by
  refine R_aload z5_0 rfl ?_
  refine R_get z5_1 (k := 0) (f := 9) (by decide +kernel) rfl rfl ?_
  refine R_top (y := nI n) (hn) ?_
  refine R_istore z5_4 (loc' := [some (.ref 1), some (.int t), some (.int p), some (.int c), some (.int (nI n))]) rfl rfl ?_
  refine R_aload z5_6 rfl ?_
  refine R_get z5_7 (k := 0) (f := 0) (by decide +kernel) rfl rfl ?_
  refine R_iload z5_10 rfl ?_
  refine R_iload z5_12 rfl ?_
  refine R_ist z5_13 (n := 16) (f := A 2) (h' := hp (va_up A 2 (upd (A 2) n t)) V O) rfl (nin hn2 (by decide)) (by rw [ncl (by omega)]; rfl) ?_
  refine R_aload z5_14 rfl ?_
  refine R_get z5_15 (k := 0) (f := 1) (by decide +kernel) rfl rfl ?_
  refine R_iload z5_18 rfl ?_
  refine R_iload z5_20 rfl ?_
  refine R_ist z5_21 (n := 16) (f := (va_up A 2 (upd (A 2) n t)) 3) (h' := hp (va_up (va_up A 2 (upd (A 2) n t)) 3 (upd (A 3) n p)) V O) rfl (nin hn2 (by decide)) (by rw [ncl (by omega)]; rfl) ?_
  refine R_aload z5_22 rfl ?_
  refine R_get z5_23 (k := 0) (f := 2) (by decide +kernel) rfl rfl ?_
  refine R_iload z5_26 rfl ?_
  refine R_iload z5_28 rfl ?_
  refine R_ist z5_29 (n := 16) (f := (va_up (va_up A 2 (upd (A 2) n t)) 3 (upd (A 3) n p)) 4) (h' := hp (va_up (va_up (va_up A 2 (upd (A 2) n t)) 3 (upd (A 3) n p)) 4 (upd (A 4) n c)) V O) rfl (nin hn2 (by decide)) (by rw [ncl (by omega)]; rfl) ?_
  refine R_aload z5_30 rfl ?_
  refine R_get z5_31 (k := 0) (f := 3) (by decide +kernel) rfl rfl ?_
  refine R_iload z5_34 rfl ?_
  refine R_iconst z5_36 (v := 3) (by decide) ?_
  refine R_ist z5_37 (n := 16) (f := (va_up (va_up (va_up A 2 (upd (A 2) n t)) 3 (upd (A 3) n p)) 4 (upd (A 4) n c)) 5) (h' := hp (cCrs A n t p c) V O) rfl (nin hn2 (by decide)) (by rw [ncl (by omega)]; rfl) ?_
  refine R_aload z5_38 rfl ?_
  refine R_dup z5_39 ?_
  refine R_get z5_40 (k := 0) (f := 9) (by decide +kernel) rfl rfl ?_
  refine R_iconst z5_43 (v := 1) (by decide) ?_
  refine R_iadd z5_44 ?_
  refine R_top (y := nI (n + 1)) (by rw [hn, nI_1]) ?_
  refine R_puti z5_45 (k := 0) (f := 9) (h' := hp (cCrs A n t p c) (va_up V 2 (nI (n + 1))) O) (by decide +kernel) (by decide +kernel) rfl (Nat.le_of_ble_eq_true rfl) rfl ?_
  refine R_iload z5_48 rfl ?_
  exact R_iret z5_50 (Or.inl (by decide +kernel)) ⟨Nat.zero_le _, Nat.zero_le _⟩ (hQ)
theorem s6 {l : Launch} {E : jEnv} {A : Nat → Nat → Int32} {V : Nat → Int32} {O : Nat → Int64} {Q : jO → List jC → Prop} {c o : Nat} (hc : c < 16) (ho : o < 16) (h1 : (c = o ∨ jbit (A 7 o) (nI c)) → Q (.inl (some (.int 1))) (hp A V O)) (h0 : ¬ (c = o ∨ jbit (A 7 o) (nI c)) → Q (.inl (some (.int 0))) (hp A V O)) : GO l E 6 0 [some (.ref 1), some (.int (nI c)), some (.int (nI o))] [] (hp A V O) 0 0 Q := by
  refine R_iload z6_0 rfl ?_
  refine R_iload z6_1 rfl ?_
  refine R_icmp z6_2 (tn := 18) rfl (fun (h2 : ((nI c) : Int32) = (nI o)) => ?_) (fun (h2 : ¬ ((nI c) : Int32) = (nI o)) => ?_)
  · refine R_iconst z6_18 (v := 1) (by decide) ?_
    refine R_goto z6_19 (tn := 23) rfl ?_
    exact R_iret z6_23 (Or.inr (by decide)) ⟨Nat.zero_le _, Nat.zero_le _⟩ (h1 (Or.inl ((nI_eq (by omega) (by omega)).mp h2)))
  · refine R_aload z6_5 rfl ?_
    refine R_get z6_6 (k := 0) (f := 5) (by decide +kernel) rfl rfl ?_
    refine R_iload z6_9 rfl ?_
    refine R_ild z6_10 (n := 16) (f := A 7) (v := (A 7 o)) rfl (nin ho (by decide)) (by rw [ncl (by omega)]) ?_
    refine R_iload z6_11 rfl ?_
    refine R_cs z6_12 (k := 49) (kind := 4) (by decide +kernel) (by decide) rfl rfl (by decide +kernel) (Nat.le_of_ble_eq_true (by rfl)) rfl ?_
    refine s49 (fun g => jBk_ret rfl ⟨rfl, rfl⟩ ?_) (fun g => jBk_ret rfl ⟨rfl, rfl⟩ ?_)
    · refine R_if z6_15 (tn := 22) rfl (fun q => absurd (show (1 : Int32) = 0 from q) (by decide)) (fun _ => ?_)
      refine R_iconst z6_18 (v := 1) (by decide) ?_
      refine R_goto z6_19 (tn := 23) rfl ?_
      exact R_iret z6_23 (Or.inr (by decide)) ⟨Nat.zero_le _, Nat.zero_le _⟩ (h1 (Or.inr g))
    · refine R_if z6_15 (tn := 22) rfl (fun _ => ?_) (fun q => absurd rfl q)
      refine R_iconst z6_22 (v := 0) (by decide) ?_
      exact R_iret z6_23 (Or.inr (by decide)) ⟨Nat.zero_le _, Nat.zero_le _⟩ (h0 (fun z => z.elim (fun e => h2 (by rw [e])) g))
def cBitO (x : Int32) (o : Nat) : Int32 := x ||| (1 : Int32) <<< (nI o &&& 31)
/-- what a course needs by way of others, with the new need laid in, for the first k courses -/
def cWay (A : Nat → Nat → Int32) (c o k : Nat) : Nat → Int32 := fun j => if j < k ∧ (j = c ∨ jbit (A 7 j) (nI c)) then A 7 j ||| cBitO (A 7 o) o else A 7 j
theorem cWay_0 {A : Nat → Nat → Int32} {c o : Nat} : cWay A c o 0 = A 7 := by funext j; simp [cWay]
theorem cWay_k {A : Nat → Nat → Int32} {c o k : Nat} : cWay A c o k k = A 7 k := by simp [cWay]
theorem cWay_n {A : Nat → Nat → Int32} {c o k : Nat} (h : ¬ (k = c ∨ jbit (A 7 k) (nI c))) : cWay A c o (k + 1) = cWay A c o k := by
  funext j
  unfold cWay
  by_cases hj : j = k
  · subst hj; rw [if_neg (fun z => h z.2), if_neg (fun z => h z.2)]
  · by_cases h2 : j < k ∧ (j = c ∨ jbit (A 7 j) (nI c))
    · rw [if_pos h2, if_pos ⟨by omega, h2.2⟩]
    · rw [if_neg h2, if_neg (fun z => h2 ⟨by omega, z.2⟩)]
theorem cWay_s {A : Nat → Nat → Int32} {c o k : Nat} (h : k = c ∨ jbit (A 7 k) (nI c)) : upd (cWay A c o k) k (A 7 k ||| cBitO (A 7 o) o) = cWay A c o (k + 1) := by
  funext j
  unfold upd cWay
  by_cases hj : j = k
  · subst hj; rw [if_pos rfl, if_pos ⟨by omega, h⟩]
  · rw [if_neg hj]
    by_cases h2 : j < k ∧ (j = c ∨ jbit (A 7 j) (nI c))
    · rw [if_pos h2, if_pos ⟨by omega, h2.2⟩]
    · rw [if_neg h2, if_neg (fun z => h2 ⟨by omega, z.2⟩)]
def cNeed0 (A : Nat → Nat → Int32) (c o : Nat) : Nat → Nat → Int32 := va_up A 6 (upd (A 6) c (A 6 c ||| (1 : Int32) <<< (nI o &&& 31)))
def cNeed (A : Nat → Nat → Int32) (c o k : Nat) : Nat → Nat → Int32 := va_up (cNeed0 A c o) 7 (cWay A c o k)
theorem s7_lp {l : Launch} {E : jEnv} {A : Nat → Nat → Int32} {V : Nat → Int32} {O : Nat → Int64} {Q : jO → List jC → Prop} {c o n : Nat} (hV : V 2 = nI n) (hn : n ≤ 16) (hc : c < 16) (ho : o < 16) (hQ : Q (.inl none) (hp (cNeed A c o n) V O)) : ∀ (d k : Nat), k + d = n →  GO l E 7 26 [some (.ref 1), some (.int (nI c)), some (.int (nI o)), some (.int (cBitO (A 7 o) o)), some (.int (nI k))] [] (hp (cNeed A c o k) V O) 0 0 Q := by
  intro d
  induction d with
  | zero =>
    intro k hk 
    refine R_iload z7_26 rfl ?_
    refine R_aload z7_28 rfl ?_
    refine R_get z7_29 (k := 0) (f := 9) (by decide +kernel) rfl rfl ?_
    refine R_icmp z7_32 (tn := 72) rfl (fun (h32 : ((V 2) : Int32) ≤ (nI k)) => ?_) (fun q => absurd ((show V 2 ≤ nI k by rw [hV, nge (by omega) (by omega)]; omega)) q)
    exact R_vret z7_72 ⟨Nat.zero_le _, Nat.zero_le _⟩ (by rw [show k = n by omega]; exact hQ)
  | succ d ih =>
    intro k hk 
    refine R_iload z7_26 rfl ?_
    refine R_aload z7_28 rfl ?_
    refine R_get z7_29 (k := 0) (f := 9) (by decide +kernel) rfl rfl ?_
    refine R_icmp z7_32 (tn := 72) rfl (fun q => absurd q ((show ¬ V 2 ≤ nI k by rw [hV, nge (by omega) (by omega)]; omega))) (fun (h32 : ¬ ((V 2) : Int32) ≤ (nI k)) => ?_)
    refine R_iload z7_35 rfl ?_
    refine R_iload z7_37 rfl ?_
    refine R_icmp z7_38 (tn := 55) rfl (fun (h38 : ((nI k) : Int32) = (nI c)) => ?_) (fun (h38 : ¬ ((nI k) : Int32) = (nI c)) => ?_)
    · refine R_aload z7_55 rfl ?_
      refine R_get z7_56 (k := 0) (f := 5) (by decide +kernel) rfl rfl ?_
      refine R_iload z7_59 rfl ?_
      refine R_dup2 z7_61 ?_
      refine R_ild z7_62 (n := 16) (f := (cNeed A c o k) 7) (v := (A 7 k)) rfl (nin (by omega) (by decide)) (by rw [ncl (by omega)]; exact cWay_k) ?_
      refine R_iload z7_63 rfl ?_
      refine R_ior z7_64 ?_
      refine R_ist z7_65 (n := 16) (f := (cNeed A c o k) 7) (h' := hp (cNeed A c o (k + 1)) V O) rfl (nin (by omega) (by decide)) (by rw [ncl (by omega)]; show (hp (cNeed A c o k) V O).set 7 (.inl (0, 16, .inl (upd (cWay A c o k) k (A 7 k ||| cBitO (A 7 o) o)))) = _; rw [cWay_s (Or.inl ((nI_eq (by omega) (by omega)).mp h38))]; rfl) ?_
      refine R_iinc z7_66 (v := 1) (loc' := [some (.ref 1), some (.int (nI c)), some (.int (nI o)), some (.int (cBitO (A 7 o) o)), some (.int (nI (k + 1)))]) rfl rfl (by decide) (by rw [nI_1]; rfl) ?_
      refine R_goto z7_69 (tn := 26) rfl ?_
      exact ih (k + 1) (by omega)
    · refine R_aload z7_41 rfl ?_
      refine R_get z7_42 (k := 0) (f := 5) (by decide +kernel) rfl rfl ?_
      refine R_iload z7_45 rfl ?_
      refine R_ild z7_47 (n := 16) (f := (cNeed A c o k) 7) (v := (A 7 k)) rfl (nin (by omega) (by decide)) (by rw [ncl (by omega)]; exact cWay_k) ?_
      refine R_iload z7_48 rfl ?_
      refine R_cs z7_49 (k := 49) (kind := 4) (by decide +kernel) (by decide) rfl rfl (by decide +kernel) (Nat.le_of_ble_eq_true (by rfl)) rfl ?_
      refine s49 (fun g => jBk_ret rfl ⟨rfl, rfl⟩ ?_) (fun g => jBk_ret rfl ⟨rfl, rfl⟩ ?_)
      · refine R_if z7_52 (tn := 66) rfl (fun q => absurd (show (1 : Int32) = 0 from q) (by decide)) (fun _ => ?_)
        refine R_aload z7_55 rfl ?_
        refine R_get z7_56 (k := 0) (f := 5) (by decide +kernel) rfl rfl ?_
        refine R_iload z7_59 rfl ?_
        refine R_dup2 z7_61 ?_
        refine R_ild z7_62 (n := 16) (f := (cNeed A c o k) 7) (v := (A 7 k)) rfl (nin (by omega) (by decide)) (by rw [ncl (by omega)]; exact cWay_k) ?_
        refine R_iload z7_63 rfl ?_
        refine R_ior z7_64 ?_
        refine R_ist z7_65 (n := 16) (f := (cNeed A c o k) 7) (h' := hp (cNeed A c o (k + 1)) V O) rfl (nin (by omega) (by decide)) (by rw [ncl (by omega)]; show (hp (cNeed A c o k) V O).set 7 (.inl (0, 16, .inl (upd (cWay A c o k) k (A 7 k ||| cBitO (A 7 o) o)))) = _; rw [cWay_s (Or.inr g)]; rfl) ?_
        refine R_iinc z7_66 (v := 1) (loc' := [some (.ref 1), some (.int (nI c)), some (.int (nI o)), some (.int (cBitO (A 7 o) o)), some (.int (nI (k + 1)))]) rfl rfl (by decide) (by rw [nI_1]; rfl) ?_
        refine R_goto z7_69 (tn := 26) rfl ?_
        exact ih (k + 1) (by omega)
      · refine R_if z7_52 (tn := 66) rfl (fun _ => ?_) (fun q => absurd rfl q)
        refine R_iinc z7_66 (v := 1) (loc' := [some (.ref 1), some (.int (nI c)), some (.int (nI o)), some (.int (cBitO (A 7 o) o)), some (.int (nI (k + 1)))]) rfl rfl (by decide) (by rw [nI_1]; rfl) ?_
        refine R_goto z7_69 (tn := 26) rfl ?_
        rw [cNeed, ← cWay_n (fun z => z.elim (fun e => h38 (by rw [e])) g)]
        exact ih (k + 1) (by omega)
theorem s7 {l : Launch} {E : jEnv} {A : Nat → Nat → Int32} {V : Nat → Int32} {O : Nat → Int64} {Q : jO → List jC → Prop} {c o n : Nat} (hV : V 2 = nI n) (hn : n ≤ 16) (hc : c < 16) (ho : o < 16) (hQ : Q (.inl none) (hp (cNeed A c o n) V O)) : GO l E 7 0 [some (.ref 1), some (.int (nI c)), some (.int (nI o)), none, none] [] (hp A V O) 0 0 Q := by
  refine R_aload z7_0 rfl ?_
  refine R_get z7_1 (k := 0) (f := 5) (by decide +kernel) rfl rfl ?_
  refine R_iload z7_4 rfl ?_
  refine R_ild z7_5 (n := 16) (f := A 7) (v := (A 7 o)) rfl (nin ho (by decide)) (by rw [ncl (by omega)]) ?_
  refine R_iconst z7_6 (v := 1) (by decide) ?_
  refine R_iload z7_7 rfl ?_
  refine R_ishl z7_8 ?_
  refine R_ior z7_9 ?_
  refine R_istore z7_10 (loc' := [some (.ref 1), some (.int (nI c)), some (.int (nI o)), some (.int ((A 7 o) ||| (1 <<< ((nI o) &&& 31)))), none]) rfl rfl ?_
  refine R_aload z7_11 rfl ?_
  refine R_get z7_12 (k := 0) (f := 4) (by decide +kernel) rfl rfl ?_
  refine R_iload z7_15 rfl ?_
  refine R_dup2 z7_16 ?_
  refine R_ild z7_17 (n := 16) (f := A 6) (v := (A 6 c)) rfl (nin hc (by decide)) (by rw [ncl (by omega)]) ?_
  refine R_iconst z7_18 (v := 1) (by decide) ?_
  refine R_iload z7_19 rfl ?_
  refine R_ishl z7_20 ?_
  refine R_ior z7_21 ?_
  refine R_ist z7_22 (n := 16) (f := A 6) (h' := hp (cNeed0 A c o) V O) rfl (nin hc (by decide)) (by rw [ncl (by omega)]; rfl) ?_
  refine R_iconst z7_23 (v := 0) (by decide) ?_
  refine R_istore z7_24 (loc' := [some (.ref 1), some (.int (nI c)), some (.int (nI o)), some (.int ((A 7 o) ||| (1 <<< ((nI o) &&& 31)))), some (.int 0)]) rfl rfl ?_
  have G := s7_lp (l := l) (E := E) (O := O) (A := A) hV hn hc ho hQ n 0 (by omega)
  unfold cNeed at G
  rw [cWay_0] at G
  exact G
end
section
abbrev jrg (v a b : Int32) : Prop := ¬ v < a ∧ v ≤ b
abbrev jbad (V : Nat → Int32) (p c : Int32) : Prop := p < 0 ∨ ¬ p < 20 ∨ c < 0 ∨ ¬ c < V 2
theorem jnat {x : Int32} {n : Nat} (h0 : ¬ x < 0) (h1 : x < nI n) (hn : n < 20000) : ∃ k, k < n ∧ x = nI k := by
  obtain ⟨j, hj, rfl⟩ := nI_of h0
  refine ⟨j, ?_, rfl⟩
  exact (nI_ltI hj (by omega)).mp h1
theorem s36_b {l : Launch} {E : jEnv} {A : Nat → Nat → Int32} {V : Nat → Int32} {O : Nat → Int64} {Q : jO → List jC → Prop} {p c n r : Nat} (hW : cWf A V n r) (hp2 : p < 20) (hc : c < 16) (hcn : c < n) (hQ : Q (.inl (some (.int (cLap A p c)))) (hp A V O)) : GO l E 36 6 [some (.ref 0), some (.int (nI p)), some (.int (nI c))] [] (hp A V O) 0 0 Q := by
  refine R_aload z36_6 rfl ?_
  refine R_iload z36_7 rfl ?_
  refine R_iload z36_8 rfl ?_
  refine R_cv z36_9 (k := 52) (by decide +kernel) rfl rfl (by decide +kernel) (Nat.le_of_ble_eq_true (by rfl)) rfl ⟨rfl, trivial⟩ ?_
  refine s52 hW hp2 hc (jBk_ret rfl ⟨rfl, rfl⟩ ?_)
  exact R_iret z36_12 (Or.inl (by decide +kernel)) ⟨Nat.zero_le _, Nat.zero_le _⟩ (hQ)
theorem s36 {l : Launch} {E : jEnv} {A : Nat → Nat → Int32} {V : Nat → Int32} {O : Nat → Int64} {Q : jO → List jC → Prop} {p c : Int32} {n r : Nat} (hW : cWf A V n r) (hbad : jbad V p c → Q (.inr "java/lang/IllegalArgumentException") (hp A V O)) (hok : ∀ p2 c2 : Nat, p = nI p2 → c = nI c2 → p2 < 20 → c2 < n → Q (.inl (some (.int (cLap A p2 c2)))) (hp A V O)) : GO l E 36 0 [some (.ref 0), some (.int p), some (.int c)] [] (hp A V O) 0 0 Q := by
  refine R_aload z36_0 rfl ?_
  refine R_iload z36_1 rfl ?_
  refine R_iload z36_2 rfl ?_
  refine R_cv z36_3 (k := 45) (by decide +kernel) rfl rfl (by decide +kernel) (Nat.le_of_ble_eq_true (by rfl)) rfl ⟨rfl, trivial⟩ ?_
  refine s45 (fun g1 g2 g3 g4 => jBk_ret rfl ⟨rfl, rfl⟩ ?_) (fun g => jBk_thr rfl ⟨rfl, rfl⟩ (hbad g))
  have hn16 := hW.2.1
  rw [n20] at g2
  rw [hW.1] at g4
  obtain ⟨p2, hp2, rfl⟩ := jnat g1 g2 (by omega)
  obtain ⟨c2, hc2, rfl⟩ := jnat g3 g4 (by omega)
  exact s36_b hW hp2 (by omega) (by omega) (hok p2 c2 rfl rfl hp2 hc2)
theorem s37_b {l : Launch} {E : jEnv} {A : Nat → Nat → Int32} {V : Nat → Int32} {O : Nat → Int64} {Q : jO → List jC → Prop} {p c n r : Nat} (hW : cWf A V n r) (hp2 : p < 20) (hc : c < 16) (hcn : c < n) (hQ : Q (.inl (some (.int (A 17 (16 * p + c))))) (hp A V O)) : GO l E 37 6 [some (.ref 0), some (.int (nI p)), some (.int (nI c))] [] (hp A V O) 0 0 Q := by
  refine R_aload z37_6 rfl ?_
  refine R_get z37_7 (k := 3) (f := 1) (by decide +kernel) rfl rfl ?_
  refine R_get z37_10 (k := 1) (f := 5) (by decide +kernel) rfl rfl ?_
  refine R_iload z37_13 rfl ?_
  refine R_iload z37_14 rfl ?_
  refine R_cs z37_15 (k := 48) (kind := 1) (by decide +kernel) (by decide) rfl rfl (by decide +kernel) (Nat.le_of_ble_eq_true (by rfl)) rfl ?_
  refine s48 (jBk_ret rfl ⟨rfl, rfl⟩ ?_)
  refine R_top (y := nI (16 * p + c)) (npair p c) ?_
  refine R_ild z37_18 (n := 320) (f := A 17) (v := (A 17 (16 * p + c))) rfl (nin (by omega) (by decide)) (by rw [ncl (by omega)]) ?_
  exact R_iret z37_19 (Or.inl (by decide +kernel)) ⟨Nat.zero_le _, Nat.zero_le _⟩ (hQ)
theorem s37 {l : Launch} {E : jEnv} {A : Nat → Nat → Int32} {V : Nat → Int32} {O : Nat → Int64} {Q : jO → List jC → Prop} {p c : Int32} {n r : Nat} (hW : cWf A V n r) (hbad : jbad V p c → Q (.inr "java/lang/IllegalArgumentException") (hp A V O)) (hok : ∀ p2 c2 : Nat, p = nI p2 → c = nI c2 → p2 < 20 → c2 < n → Q (.inl (some (.int (A 17 (16 * p2 + c2))))) (hp A V O)) : GO l E 37 0 [some (.ref 0), some (.int p), some (.int c)] [] (hp A V O) 0 0 Q := by
  refine R_aload z37_0 rfl ?_
  refine R_iload z37_1 rfl ?_
  refine R_iload z37_2 rfl ?_
  refine R_cv z37_3 (k := 45) (by decide +kernel) rfl rfl (by decide +kernel) (Nat.le_of_ble_eq_true (by rfl)) rfl ⟨rfl, trivial⟩ ?_
  refine s45 (fun g1 g2 g3 g4 => jBk_ret rfl ⟨rfl, rfl⟩ ?_) (fun g => jBk_thr rfl ⟨rfl, rfl⟩ (hbad g))
  have hn16 := hW.2.1
  rw [n20] at g2
  rw [hW.1] at g4
  obtain ⟨p2, hp2, rfl⟩ := jnat g1 g2 (by omega)
  obtain ⟨c2, hc2, rfl⟩ := jnat g3 g4 (by omega)
  exact s37_b hW hp2 (by omega) (by omega) (hok p2 c2 rfl rfl hp2 hc2)
theorem s38_b {l : Launch} {E : jEnv} {A : Nat → Nat → Int32} {V : Nat → Int32} {O : Nat → Int64} {Q : jO → List jC → Prop} {p c n r : Nat} (hW : cWf A V n r) (hp2 : p < 20) (hc : c < 16) (hcn : c < n) (hQ : Q (.inl (some (.int (nI (cWhy A V n p c))))) (hp A V O)) : GO l E 38 6 [some (.ref 0), some (.int (nI p)), some (.int (nI c))] [] (hp A V O) 0 0 Q := by
  refine R_aload z38_6 rfl ?_
  refine R_iload z38_7 rfl ?_
  refine R_iload z38_8 rfl ?_
  refine R_cv z38_9 (k := 55) (by decide +kernel) rfl rfl (by decide +kernel) (Nat.le_of_ble_eq_true (by rfl)) rfl ⟨rfl, trivial⟩ ?_
  refine s55 hW hp2 hc (jBk_ret rfl ⟨rfl, rfl⟩ ?_)
  exact R_iret z38_12 (Or.inl (by decide +kernel)) ⟨Nat.zero_le _, Nat.zero_le _⟩ (hQ)
theorem s38 {l : Launch} {E : jEnv} {A : Nat → Nat → Int32} {V : Nat → Int32} {O : Nat → Int64} {Q : jO → List jC → Prop} {p c : Int32} {n r : Nat} (hW : cWf A V n r) (hbad : jbad V p c → Q (.inr "java/lang/IllegalArgumentException") (hp A V O)) (hok : ∀ p2 c2 : Nat, p = nI p2 → c = nI c2 → p2 < 20 → c2 < n → Q (.inl (some (.int (nI (cWhy A V n p2 c2))))) (hp A V O)) : GO l E 38 0 [some (.ref 0), some (.int p), some (.int c)] [] (hp A V O) 0 0 Q := by
  refine R_aload z38_0 rfl ?_
  refine R_iload z38_1 rfl ?_
  refine R_iload z38_2 rfl ?_
  refine R_cv z38_3 (k := 45) (by decide +kernel) rfl rfl (by decide +kernel) (Nat.le_of_ble_eq_true (by rfl)) rfl ⟨rfl, trivial⟩ ?_
  refine s45 (fun g1 g2 g3 g4 => jBk_ret rfl ⟨rfl, rfl⟩ ?_) (fun g => jBk_thr rfl ⟨rfl, rfl⟩ (hbad g))
  have hn16 := hW.2.1
  rw [n20] at g2
  rw [hW.1] at g4
  obtain ⟨p2, hp2, rfl⟩ := jnat g1 g2 (by omega)
  obtain ⟨c2, hc2, rfl⟩ := jnat g3 g4 (by omega)
  exact s38_b hW hp2 (by omega) (by omega) (hok p2 c2 rfl rfl hp2 hc2)
def cHolds (A : Nat → Nat → Int32) (r p c : Nat) (d : Int32) : Prop := d < cLof A (cUp A d r (A 15 (16 * p + c))) c
theorem cUp_pass {A : Nat → Nat → Int32} {V : Nat → Int32} {n r : Nat} (hW : cWf A V n r) {d : Int32} : ∀ (f : Nat) (x : Int32), jpass x r → jpass (cUp A d f x) r
  | 0, x, _ => Or.inl rfl
  | f + 1, x, hx => by
    unfold cUp
    by_cases h1 : x = -1
    · rw [if_pos h1]; exact Or.inl rfl
    · rw [if_neg h1]
      split
      · exact cUp_pass hW f _ (jpass_next hW hx h1)
      · exact hx
theorem s35_b {l : Launch} {E : jEnv} {A : Nat → Nat → Int32} {V : Nat → Int32} {O : Nat → Int64} {Q : jO → List jC → Prop} {d : Int32} {p c n r : Nat} (hW : cWf A V n r) (hp2 : p < 20) (hc : c < 16) (hcn : c < n) (hQ : ((¬ jrg d 0 9999 → Q (.inr "java/lang/IndexOutOfBoundsException") (hp A V O)) ∧ (jrg d 0 9999 → cHolds A r p c d → Q (.inl (some (.int 1))) (hp A V O)) ∧ (jrg d 0 9999 → ¬ cHolds A r p c d → Q (.inl (some (.int 0))) (hp A V O)))) : GO l E 35 6 [some (.ref 0), some (.int (nI p)), some (.int (nI c)), some (.int d)] [] (hp A V O) 0 0 Q := by
  refine R_iload z35_6 rfl ?_
  refine R_iconst z35_7 (v := 0) (by decide) ?_
  refine R_sipush z35_8 (v := 9999) (by decide) ?_
  refine R_cs z35_11 (k := 46) (kind := 1) (by decide +kernel) (by decide) rfl rfl (by decide +kernel) (Nat.le_of_ble_eq_true (by rfl)) rfl ?_
  refine s46 (fun g1 g2 => jBk_ret rfl ⟨rfl, rfl⟩ ?_) (fun g => jBk_thr rfl ⟨rfl, rfl⟩ (hQ.1 (fun z => g.elim z.1 (fun y => y z.2))))
  refine R_iload z35_14 rfl ?_
  refine R_aload z35_15 rfl ?_
  refine R_aload z35_16 rfl ?_
  refine R_get z35_17 (k := 3) (f := 1) (by decide +kernel) rfl rfl ?_
  refine R_iload z35_20 rfl ?_
  refine R_iload z35_21 rfl ?_
  refine R_cs z35_22 (k := 48) (kind := 1) (by decide +kernel) (by decide) rfl rfl (by decide +kernel) (Nat.le_of_ble_eq_true (by rfl)) rfl ?_
  refine s48 (jBk_ret rfl ⟨rfl, rfl⟩ ?_)
  refine R_top (y := nI (16 * p + c)) (npair p c) ?_
  refine R_iload z35_25 rfl ?_
  refine R_cv z35_26 (k := 14) (by decide +kernel) rfl rfl (by decide +kernel) (Nat.le_of_ble_eq_true (by rfl)) rfl ⟨rfl, trivial⟩ ?_
  refine s14 hW (by omega) (jBk_ret rfl ⟨rfl, rfl⟩ ?_)
  refine R_iload z35_29 rfl ?_
  refine R_cv z35_30 (k := 53) (by decide +kernel) rfl rfl (by decide +kernel) (Nat.le_of_ble_eq_true (by rfl)) rfl ⟨rfl, trivial⟩ ?_
  refine s53 (cUp_pass hW r _ (hW.2.2.2.2.1 _ (by omega))) hW.2.2.2.1 hc (jBk_ret rfl ⟨rfl, rfl⟩ ?_)
  refine R_icmp z35_33 (tn := 40) rfl (fun (h33 : ((cLof A (cUp A d r (A 15 (16 * p + c))) c) : Int32) ≤ d) => ?_) (fun (h33 : ¬ ((cLof A (cUp A d r (A 15 (16 * p + c))) c) : Int32) ≤ d) => ?_)
  · refine R_iconst z35_40 (v := 0) (by decide) ?_
    exact R_iret z35_41 (Or.inr (by decide)) ⟨Nat.zero_le _, Nat.zero_le _⟩ (hQ.2.2 ⟨g1, g2⟩ (fun z => absurd h33 (Int32.not_le.mpr z)))
  · refine R_iconst z35_36 (v := 1) (by decide) ?_
    refine R_goto z35_37 (tn := 41) rfl ?_
    exact R_iret z35_41 (Or.inr (by decide)) ⟨Nat.zero_le _, Nat.zero_le _⟩ (hQ.2.1 ⟨g1, g2⟩ (Int32.not_le.mp h33))
theorem s35 {l : Launch} {E : jEnv} {A : Nat → Nat → Int32} {V : Nat → Int32} {O : Nat → Int64} {Q : jO → List jC → Prop} {p c d : Int32} {n r : Nat} (hW : cWf A V n r) (hbad : jbad V p c → Q (.inr "java/lang/IllegalArgumentException") (hp A V O)) (hok : ∀ p2 c2 : Nat, p = nI p2 → c = nI c2 → p2 < 20 → c2 < n → ((¬ jrg d 0 9999 → Q (.inr "java/lang/IndexOutOfBoundsException") (hp A V O)) ∧ (jrg d 0 9999 → cHolds A r p2 c2 d → Q (.inl (some (.int 1))) (hp A V O)) ∧ (jrg d 0 9999 → ¬ cHolds A r p2 c2 d → Q (.inl (some (.int 0))) (hp A V O)))) : GO l E 35 0 [some (.ref 0), some (.int p), some (.int c), some (.int d)] [] (hp A V O) 0 0 Q := by
  refine R_aload z35_0 rfl ?_
  refine R_iload z35_1 rfl ?_
  refine R_iload z35_2 rfl ?_
  refine R_cv z35_3 (k := 45) (by decide +kernel) rfl rfl (by decide +kernel) (Nat.le_of_ble_eq_true (by rfl)) rfl ⟨rfl, trivial⟩ ?_
  refine s45 (fun g1 g2 g3 g4 => jBk_ret rfl ⟨rfl, rfl⟩ ?_) (fun g => jBk_thr rfl ⟨rfl, rfl⟩ (hbad g))
  have hn16 := hW.2.1
  rw [n20] at g2
  rw [hW.1] at g4
  obtain ⟨p2, hp2, rfl⟩ := jnat g1 g2 (by omega)
  obtain ⟨c2, hc2, rfl⟩ := jnat g3 g4 (by omega)
  exact s35_b hW hp2 (by omega) (by omega) (hok p2 c2 rfl rfl hp2 hc2)
theorem s34_b {l : Launch} {E : jEnv} {A : Nat → Nat → Int32} {V : Nat → Int32} {O : Nat → Int64} {Q : jO → List jC → Prop} (h00 : ¬ V 0 < 0) {p c n r : Nat} (hW : cWf A V n r) (hp2 : p < 20) (hc : c < 16) (hcn : c < n) (hQ : ((¬ cHold A V p c → Q (.inr "java/lang/IllegalStateException") (hp A V O)) ∧ (cHold A V p c → ∀ k, k < r → A 15 (16 * p + c) = nI k → Q (.inl (some (.int (cUse A (16 * p + c) k (V 0) (A 4 c) 14 k)))) (hp (cUse A (16 * p + c) k (V 0) (A 4 c)) V O)))) : GO l E 34 6 [some (.ref 0), some (.int (nI p)), some (.int (nI c))] [] (hp A V O) 0 0 Q := by
  refine R_aload z34_6 rfl ?_
  refine R_iload z34_7 rfl ?_
  refine R_iload z34_8 rfl ?_
  refine R_cv z34_9 (k := 54) (by decide +kernel) rfl rfl (by decide +kernel) (Nat.le_of_ble_eq_true (by rfl)) rfl ⟨rfl, trivial⟩ ?_
  refine s54 hW hp2 hc (fun g => jBk_ret rfl ⟨rfl, rfl⟩ ?_) (fun g => jBk_ret rfl ⟨rfl, rfl⟩ ?_)
  · refine R_if z34_12 (tn := 25) rfl (fun _ => ?_) (fun q => absurd (show ¬ (1 : Int32) = 0 by decide) q)
    obtain ⟨k, hk, ek⟩ : ∃ k, k < r ∧ A 15 (16 * p + c) = nI k := by
      rcases hW.2.2.2.2.1 (16 * p + c) (by omega) with e | e
      · exact absurd (show V 0 < -1 by have g9 := g; unfold cHold cLap cLof at g9; rw [if_pos e] at g9; exact g9) (fun z => h00 (Int32.lt_trans z (by decide)))
      · exact e
    refine R_aload z34_25 rfl ?_
    refine R_get z34_26 (k := 3) (f := 1) (by decide +kernel) rfl rfl ?_
    refine R_iload z34_29 rfl ?_
    refine R_iload z34_30 rfl ?_
    refine R_cs z34_31 (k := 48) (kind := 1) (by decide +kernel) (by decide) rfl rfl (by decide +kernel) (Nat.le_of_ble_eq_true (by rfl)) rfl ?_
    refine s48 (jBk_ret rfl ⟨rfl, rfl⟩ ?_)
    refine R_top (y := nI (16 * p + c)) (npair p c) ?_
    refine R_aload z34_34 rfl ?_
    refine R_get z34_35 (k := 3) (f := 3) (by decide +kernel) rfl rfl ?_
    refine R_aload z34_38 rfl ?_
    refine R_get z34_39 (k := 3) (f := 0) (by decide +kernel) rfl rfl ?_
    refine R_get z34_42 (k := 0) (f := 2) (by decide +kernel) rfl rfl ?_
    refine R_iload z34_45 rfl ?_
    refine R_ild z34_46 (n := 16) (f := A 4) (v := (A 4 c)) rfl (nin hc (by decide)) (by rw [ncl (by omega)]) ?_
    refine R_cv z34_47 (k := 13) (by decide +kernel) rfl rfl (by decide +kernel) (Nat.le_of_ble_eq_true (by rfl)) rfl ⟨rfl, trivial⟩ ?_
    refine s13 (by omega) (by have := hW.2.2.2.1; omega) ek (jBk_ret rfl ⟨rfl, rfl⟩ ?_)
    exact R_iret z34_50 (Or.inl (by decide +kernel)) ⟨Nat.zero_le _, Nat.zero_le _⟩ (hQ.2 g k hk ek)
  · refine R_if z34_12 (tn := 25) rfl (fun q => absurd rfl q) (fun _ => ?_)
    exact R_throw z34_15 (q := (64, 127, 68, "java/lang/IllegalStateException", "the person does not hold the course")) (X := "java/lang/IllegalStateException") (by decide +kernel) rfl rfl (by decide +kernel) (by decide +kernel) (hQ.1 g)
theorem s34 {l : Launch} {E : jEnv} {A : Nat → Nat → Int32} {V : Nat → Int32} {O : Nat → Int64} {Q : jO → List jC → Prop} {p c : Int32} {n r : Nat} (h00 : ¬ V 0 < 0) (hW : cWf A V n r) (hbad : jbad V p c → Q (.inr "java/lang/IllegalArgumentException") (hp A V O)) (hok : ∀ p2 c2 : Nat, p = nI p2 → c = nI c2 → p2 < 20 → c2 < n → ((¬ cHold A V p2 c2 → Q (.inr "java/lang/IllegalStateException") (hp A V O)) ∧ (cHold A V p2 c2 → ∀ k, k < r → A 15 (16 * p2 + c2) = nI k → Q (.inl (some (.int (cUse A (16 * p2 + c2) k (V 0) (A 4 c2) 14 k)))) (hp (cUse A (16 * p2 + c2) k (V 0) (A 4 c2)) V O)))) : GO l E 34 0 [some (.ref 0), some (.int p), some (.int c)] [] (hp A V O) 0 0 Q := by
  refine R_aload z34_0 rfl ?_
  refine R_iload z34_1 rfl ?_
  refine R_iload z34_2 rfl ?_
  refine R_cv z34_3 (k := 45) (by decide +kernel) rfl rfl (by decide +kernel) (Nat.le_of_ble_eq_true (by rfl)) rfl ⟨rfl, trivial⟩ ?_
  refine s45 (fun g1 g2 g3 g4 => jBk_ret rfl ⟨rfl, rfl⟩ ?_) (fun g => jBk_thr rfl ⟨rfl, rfl⟩ (hbad g))
  have hn16 := hW.2.1
  rw [n20] at g2
  rw [hW.1] at g4
  obtain ⟨p2, hp2, rfl⟩ := jnat g1 g2 (by omega)
  obtain ⟨c2, hc2, rfl⟩ := jnat g3 g4 (by omega)
  exact s34_b h00 hW hp2 (by omega) (by omega) (hok p2 c2 rfl rfl hp2 hc2)
theorem s32_b {l : Launch} {E : jEnv} {A : Nat → Nat → Int32} {V : Nat → Int32} {O : Nat → Int64} {Q : jO → List jC → Prop} {p c n r : Nat} (hW : cWf A V n r) (hp2 : p < 20) (hc : c < 16) (hcn : c < n) (hQ : ((¬ A 10 c = 0 → Q (.inr "java/lang/IllegalStateException") (hp A V O)) ∧ (A 10 c = 0 → ¬ r < 300 → Q (.inr "java/lang/UnsupportedOperationException") (hp A V O)) ∧ (A 10 c = 0 → r < 300 → Q (.inl (some (.int (nI r)))) (hp (cAddP (cNote A c) (16 * p + c) r (V 0)) (va_up (va_up V 3 (nI (r + 1))) 4 (V 4 + 1)) O)))) : GO l E 32 6 [some (.ref 0), some (.int (nI p)), some (.int (nI c))] [] (hp A V O) 0 0 Q := by
  refine R_aload z32_6 rfl ?_
  refine R_get z32_7 (k := 3) (f := 0) (by decide +kernel) rfl rfl ?_
  refine R_get z32_10 (k := 0) (f := 8) (by decide +kernel) rfl rfl ?_
  refine R_iload z32_13 rfl ?_
  refine R_zld z32_14 (n := 16) (f := A 10) (v := (A 10 c)) rfl (nin hc (by decide)) (by rw [ncl (by omega)]) ?_
  refine R_if z32_15 (tn := 28) rfl (fun (h15 : ((A 10 c) : Int32) = 0) => ?_) (fun (h15 : ¬ ((A 10 c) : Int32) = 0) => ?_)
  · refine R_aload z32_28 rfl ?_
    refine R_cv z32_29 (k := 47) (by decide +kernel) rfl rfl (by decide +kernel) (Nat.le_of_ble_eq_true (by rfl)) rfl ⟨rfl, trivial⟩ ?_
    refine s47 (fun g => jBk_ret rfl ⟨rfl, rfl⟩ ?_) (fun g => jBk_thr rfl ⟨rfl, rfl⟩ (hQ.2.1 h15 (by rw [hW.2.2.1, show (300 : Int32) = nI 300 by decide, nlt (by have := hW.2.2.2.1; omega) (by omega)] at g; exact g)))
    refine R_aload z32_32 rfl ?_
    refine R_iload z32_33 rfl ?_
    refine R_iload z32_34 rfl ?_
    refine R_iconst z32_35 (v := 1) (by decide) ?_
    refine R_cv z32_36 (k := 51) (by decide +kernel) rfl rfl (by decide +kernel) (Nat.le_of_ble_eq_true (by rfl)) rfl ⟨rfl, trivial⟩ ?_
    refine s51p hW.2.2.1 (by rw [hW.2.2.1, show (300 : Int32) = nI 300 by decide, nlt (by have := hW.2.2.2.1; omega) (by omega)] at g; exact g) hp2 hc (jBk_ret rfl ⟨rfl, rfl⟩ ?_)
    exact R_iret z32_39 (Or.inl (by decide +kernel)) ⟨Nat.zero_le _, Nat.zero_le _⟩ (hQ.2.2 h15 (by rw [hW.2.2.1, show (300 : Int32) = nI 300 by decide, nlt (by have := hW.2.2.2.1; omega) (by omega)] at g; exact g))
  · exact R_throw z32_18 (q := (64, 117, 68, "java/lang/IllegalStateException", "the course has a result")) (X := "java/lang/IllegalStateException") (by decide +kernel) rfl rfl (by decide +kernel) (by decide +kernel) (hQ.1 h15)
theorem s32 {l : Launch} {E : jEnv} {A : Nat → Nat → Int32} {V : Nat → Int32} {O : Nat → Int64} {Q : jO → List jC → Prop} {p c : Int32} {n r : Nat} (hW : cWf A V n r) (hbad : jbad V p c → Q (.inr "java/lang/IllegalArgumentException") (hp A V O)) (hok : ∀ p2 c2 : Nat, p = nI p2 → c = nI c2 → p2 < 20 → c2 < n → ((¬ A 10 c2 = 0 → Q (.inr "java/lang/IllegalStateException") (hp A V O)) ∧ (A 10 c2 = 0 → ¬ r < 300 → Q (.inr "java/lang/UnsupportedOperationException") (hp A V O)) ∧ (A 10 c2 = 0 → r < 300 → Q (.inl (some (.int (nI r)))) (hp (cAddP (cNote A c2) (16 * p2 + c2) r (V 0)) (va_up (va_up V 3 (nI (r + 1))) 4 (V 4 + 1)) O)))) : GO l E 32 0 [some (.ref 0), some (.int p), some (.int c)] [] (hp A V O) 0 0 Q := by
  refine R_aload z32_0 rfl ?_
  refine R_iload z32_1 rfl ?_
  refine R_iload z32_2 rfl ?_
  refine R_cv z32_3 (k := 45) (by decide +kernel) rfl rfl (by decide +kernel) (Nat.le_of_ble_eq_true (by rfl)) rfl ⟨rfl, trivial⟩ ?_
  refine s45 (fun g1 g2 g3 g4 => jBk_ret rfl ⟨rfl, rfl⟩ ?_) (fun g => jBk_thr rfl ⟨rfl, rfl⟩ (hbad g))
  have hn16 := hW.2.1
  rw [n20] at g2
  rw [hW.1] at g4
  obtain ⟨p2, hp2, rfl⟩ := jnat g1 g2 (by omega)
  obtain ⟨c2, hc2, rfl⟩ := jnat g3 g4 (by omega)
  exact s32_b hW hp2 (by omega) (by omega) (hok p2 c2 rfl rfl hp2 hc2)
theorem cWhy_lt {A : Nat → Nat → Int32} {V : Nat → Int32} {n p c : Nat} : cWhy A V n p c < 2 ^ 31 := by
  unfold cWhy
  split
  · decide
  · split
    · decide
    · split <;> decide
theorem cWhy_0 {A : Nat → Nat → Int32} {V : Nat → Int32} {n p c : Nat} (h : nI (cWhy A V n p c) = 0) : cWhy A V n p c = 0 := by
  rcases Nat.eq_zero_or_pos (cWhy A V n p c) with e | e
  · exact e
  · exact absurd h (nI_ne0 e cWhy_lt)
theorem cWhy_n {A : Nat → Nat → Int32} {V : Nat → Int32} {n p c : Nat} (h : ¬ nI (cWhy A V n p c) = 0) : ¬ cWhy A V n p c = 0 := fun e => h (by rw [e]; rfl)
theorem s31_b {l : Launch} {E : jEnv} {A : Nat → Nat → Int32} {V : Nat → Int32} {O : Nat → Int64} {Q : jO → List jC → Prop} {mk : Int32} {p c n r : Nat} (hW : cWf A V n r) (hp2 : p < 20) (hc : c < 16) (hcn : c < n) (hQ : ((¬ jrg mk 0 100 → Q (.inr "java/lang/IndexOutOfBoundsException") (hp A V O)) ∧ (jrg mk 0 100 → ¬ cWhy A V n p c = 0 → Q (.inr "java/lang/IllegalStateException") (hp A V O)) ∧ (jrg mk 0 100 → cWhy A V n p c = 0 → (cRoom A V c = 0 ∨ ¬ r < 300) → Q (.inr "java/lang/UnsupportedOperationException") (hp A V O)) ∧ (jrg mk 0 100 → cWhy A V n p c = 0 → ¬ cRoom A V c = 0 → r < 300 → ¬ mk < A 3 c → Q (.inl (some (.int (nI r)))) (hp (cAddP (cNote A c) (16 * p + c) r (V 0)) (va_up (va_up V 3 (nI (r + 1))) 4 (V 4 + 1)) O)) ∧ (jrg mk 0 100 → cWhy A V n p c = 0 → ¬ cRoom A V c = 0 → r < 300 → mk < A 3 c → Q (.inl (some (.int (nI r)))) (hp (cAddF (cNote A c) (16 * p + c) r (V 0)) (va_up V 3 (nI (r + 1))) O)))) : GO l E 31 6 [some (.ref 0), some (.int (nI p)), some (.int (nI c)), some (.int mk)] [] (hp A V O) 0 0 Q := by
  refine R_iload z31_6 rfl ?_
  refine R_iconst z31_7 (v := 0) (by decide) ?_
  refine R_bipush z31_8 (v := 100) (by decide) ?_
  refine R_cs z31_10 (k := 46) (kind := 1) (by decide +kernel) (by decide) rfl rfl (by decide +kernel) (Nat.le_of_ble_eq_true (by rfl)) rfl ?_
  refine s46 (fun g1 g2 => jBk_ret rfl ⟨rfl, rfl⟩ ?_) (fun g => jBk_thr rfl ⟨rfl, rfl⟩ (hQ.1 (fun z => g.elim z.1 (fun y => y z.2))))
  refine R_aload z31_13 rfl ?_
  refine R_iload z31_14 rfl ?_
  refine R_iload z31_15 rfl ?_
  refine R_cv z31_16 (k := 55) (by decide +kernel) rfl rfl (by decide +kernel) (Nat.le_of_ble_eq_true (by rfl)) rfl ⟨rfl, trivial⟩ ?_
  refine s55 hW hp2 hc (jBk_ret rfl ⟨rfl, rfl⟩ ?_)
  refine R_if z31_19 (tn := 32) rfl (fun (h19 : ((nI (cWhy A V n p c)) : Int32) = 0) => ?_) (fun (h19 : ¬ ((nI (cWhy A V n p c)) : Int32) = 0) => ?_)
  · refine R_aload z31_32 rfl ?_
    refine R_iload z31_33 rfl ?_
    refine R_cv z31_34 (k := 57) (by decide +kernel) rfl rfl (by decide +kernel) (Nat.le_of_ble_eq_true (by rfl)) rfl ⟨rfl, trivial⟩ ?_
    refine s57 hW hc (jBk_ret rfl ⟨rfl, rfl⟩ ?_)
    refine R_if z31_37 (tn := 50) rfl (fun (h37 : ¬ ((cRoom A V c) : Int32) = 0) => ?_) (fun (h37 : ¬ (¬ ((cRoom A V c) : Int32) = 0)) => ?_)
    · refine R_aload z31_50 rfl ?_
      refine R_cv z31_51 (k := 47) (by decide +kernel) rfl rfl (by decide +kernel) (Nat.le_of_ble_eq_true (by rfl)) rfl ⟨rfl, trivial⟩ ?_
      refine s47 (fun g => jBk_ret rfl ⟨rfl, rfl⟩ ?_) (fun g => jBk_thr rfl ⟨rfl, rfl⟩ (hQ.2.2.1 ⟨g1, g2⟩ (cWhy_0 h19) (Or.inr (by rw [hW.2.2.1, show (300 : Int32) = nI 300 by decide, nlt (by have := hW.2.2.2.1; omega) (by omega)] at g; exact g))))
      refine R_aload z31_54 rfl ?_
      refine R_iload z31_55 rfl ?_
      refine R_iload z31_56 rfl ?_
      refine R_iload z31_57 rfl ?_
      refine R_aload z31_58 rfl ?_
      refine R_get z31_59 (k := 3) (f := 0) (by decide +kernel) rfl rfl ?_
      refine R_get z31_62 (k := 0) (f := 1) (by decide +kernel) rfl rfl ?_
      refine R_iload z31_65 rfl ?_
      refine R_ild z31_66 (n := 16) (f := A 3) (v := (A 3 c)) rfl (nin hc (by decide)) (by rw [ncl (by omega)]) ?_
      refine R_icmp z31_67 (tn := 74) rfl (fun (h67 : (mk : Int32) < (A 3 c)) => ?_) (fun (h67 : ¬ (mk : Int32) < (A 3 c)) => ?_)
      · refine R_iconst z31_74 (v := 0) (by decide) ?_
        refine R_cv z31_75 (k := 51) (by decide +kernel) rfl rfl (by decide +kernel) (Nat.le_of_ble_eq_true (by rfl)) rfl ⟨rfl, trivial⟩ ?_
        refine s51f hW.2.2.1 (by rw [hW.2.2.1, show (300 : Int32) = nI 300 by decide, nlt (by have := hW.2.2.2.1; omega) (by omega)] at g; exact g) hp2 hc (jBk_ret rfl ⟨rfl, rfl⟩ ?_)
        exact R_iret z31_78 (Or.inl (by decide +kernel)) ⟨Nat.zero_le _, Nat.zero_le _⟩ (hQ.2.2.2.2 ⟨g1, g2⟩ (cWhy_0 h19) h37 (by rw [hW.2.2.1, show (300 : Int32) = nI 300 by decide, nlt (by have := hW.2.2.2.1; omega) (by omega)] at g; exact g) h67)
      · refine R_iconst z31_70 (v := 1) (by decide) ?_
        refine R_goto z31_71 (tn := 75) rfl ?_
        refine R_cv z31_75 (k := 51) (by decide +kernel) rfl rfl (by decide +kernel) (Nat.le_of_ble_eq_true (by rfl)) rfl ⟨rfl, trivial⟩ ?_
        refine s51p hW.2.2.1 (by rw [hW.2.2.1, show (300 : Int32) = nI 300 by decide, nlt (by have := hW.2.2.2.1; omega) (by omega)] at g; exact g) hp2 hc (jBk_ret rfl ⟨rfl, rfl⟩ ?_)
        exact R_iret z31_78 (Or.inl (by decide +kernel)) ⟨Nat.zero_le _, Nat.zero_le _⟩ (hQ.2.2.2.1 ⟨g1, g2⟩ (cWhy_0 h19) h37 (by rw [hW.2.2.1, show (300 : Int32) = nI 300 by decide, nlt (by have := hW.2.2.2.1; omega) (by omega)] at g; exact g) h67)
    · exact R_throw z31_40 (q := (45, 101, 49, "java/lang/UnsupportedOperationException", "the course has no room")) (X := "java/lang/UnsupportedOperationException") (by decide +kernel) rfl rfl (by decide +kernel) (by decide +kernel) (hQ.2.2.1 ⟨g1, g2⟩ (cWhy_0 h19) (Or.inl (Classical.not_not.mp h37)))
  · exact R_throw z31_22 (q := (64, 95, 68, "java/lang/IllegalStateException", "the person is barred")) (X := "java/lang/IllegalStateException") (by decide +kernel) rfl rfl (by decide +kernel) (by decide +kernel) (hQ.2.1 ⟨g1, g2⟩ (cWhy_n h19))
theorem s31 {l : Launch} {E : jEnv} {A : Nat → Nat → Int32} {V : Nat → Int32} {O : Nat → Int64} {Q : jO → List jC → Prop} {p c mk : Int32} {n r : Nat} (hW : cWf A V n r) (hbad : jbad V p c → Q (.inr "java/lang/IllegalArgumentException") (hp A V O)) (hok : ∀ p2 c2 : Nat, p = nI p2 → c = nI c2 → p2 < 20 → c2 < n → ((¬ jrg mk 0 100 → Q (.inr "java/lang/IndexOutOfBoundsException") (hp A V O)) ∧ (jrg mk 0 100 → ¬ cWhy A V n p2 c2 = 0 → Q (.inr "java/lang/IllegalStateException") (hp A V O)) ∧ (jrg mk 0 100 → cWhy A V n p2 c2 = 0 → (cRoom A V c2 = 0 ∨ ¬ r < 300) → Q (.inr "java/lang/UnsupportedOperationException") (hp A V O)) ∧ (jrg mk 0 100 → cWhy A V n p2 c2 = 0 → ¬ cRoom A V c2 = 0 → r < 300 → ¬ mk < A 3 c2 → Q (.inl (some (.int (nI r)))) (hp (cAddP (cNote A c2) (16 * p2 + c2) r (V 0)) (va_up (va_up V 3 (nI (r + 1))) 4 (V 4 + 1)) O)) ∧ (jrg mk 0 100 → cWhy A V n p2 c2 = 0 → ¬ cRoom A V c2 = 0 → r < 300 → mk < A 3 c2 → Q (.inl (some (.int (nI r)))) (hp (cAddF (cNote A c2) (16 * p2 + c2) r (V 0)) (va_up V 3 (nI (r + 1))) O)))) : GO l E 31 0 [some (.ref 0), some (.int p), some (.int c), some (.int mk)] [] (hp A V O) 0 0 Q := by
  refine R_aload z31_0 rfl ?_
  refine R_iload z31_1 rfl ?_
  refine R_iload z31_2 rfl ?_
  refine R_cv z31_3 (k := 45) (by decide +kernel) rfl rfl (by decide +kernel) (Nat.le_of_ble_eq_true (by rfl)) rfl ⟨rfl, trivial⟩ ?_
  refine s45 (fun g1 g2 g3 g4 => jBk_ret rfl ⟨rfl, rfl⟩ ?_) (fun g => jBk_thr rfl ⟨rfl, rfl⟩ (hbad g))
  have hn16 := hW.2.1
  rw [n20] at g2
  rw [hW.1] at g4
  obtain ⟨p2, hp2, rfl⟩ := jnat g1 g2 (by omega)
  obtain ⟨c2, hc2, rfl⟩ := jnat g3 g4 (by omega)
  exact s31_b hW hp2 (by omega) (by omega) (hok p2 c2 rfl rfl hp2 hc2)
end
section
theorem R_tsw {l : Launch} {E : jEnv} {i pc nx : Nat} {loc : List (Option Value)} {st : List Value} {h : List jC} {c s : Nat} {Q : jO → List jC → Prop} {x : Int32} {d lo hi : Int} {ts : Array Int} (hz : jcd i pc = some (.tableswitch d lo hi ts, nx)) (k1 : ∀ (k : Nat) (t : Int), ts.toList[k]? = some t → x.toInt = lo + k → GO l E i t.toNat loc st h c s Q) (k2 : x.toInt < lo ∨ hi < x.toInt → GO l E i d.toNat loc st h c s Q) : GO l E i pc loc (.int x :: st) h c s Q := J_s hz ⟨k1, k2⟩
theorem s26 {l : Launch} {E : jEnv} {A : Nat → Nat → Int32} {V : Nat → Int32} {O : Nat → Int64} {Q : jO → List jC → Prop} {t p c : Int32} {n r : Nat} (hW : cWf A V n r) (hI : ¬ (jrg t 1 2000 ∧ jrg p 0 100 ∧ jrg c 0 50) → Q (.inr "java/lang/IndexOutOfBoundsException") (hp A V O)) (hU : (jrg t 1 2000 ∧ jrg p 0 100 ∧ jrg c 0 50) → ¬ n < 16 → Q (.inr "java/lang/UnsupportedOperationException") (hp A V O)) (hQ : (jrg t 1 2000 ∧ jrg p 0 100 ∧ jrg c 0 50) → n < 16 → Q (.inl (some (.int (nI n)))) (hp (cCrs A n t p c) (va_up V 2 (nI (n + 1))) O)) : GO l E 26 0 [some (.ref 0), some (.int t), some (.int p), some (.int c)] [] (hp A V O) 0 0 Q := by
  refine R_iload z26_0 rfl ?_
  refine R_iconst z26_1 (v := 1) (by decide) ?_
  refine R_sipush z26_2 (v := 2000) (by decide) ?_
  refine R_cs z26_5 (k := 46) (kind := 1) (by decide +kernel) (by decide) rfl rfl (by decide +kernel) (Nat.le_of_ble_eq_true (by rfl)) rfl ?_
  refine s46 (fun a1 a2 => jBk_ret rfl ⟨rfl, rfl⟩ ?_) (fun g => jBk_thr rfl ⟨rfl, rfl⟩ (hI (fun z => g.elim z.1.1 (fun y => y z.1.2))))
  refine R_iload z26_8 rfl ?_
  refine R_iconst z26_9 (v := 0) (by decide) ?_
  refine R_bipush z26_10 (v := 100) (by decide) ?_
  refine R_cs z26_12 (k := 46) (kind := 1) (by decide +kernel) (by decide) rfl rfl (by decide +kernel) (Nat.le_of_ble_eq_true (by rfl)) rfl ?_
  refine s46 (fun b1 b2 => jBk_ret rfl ⟨rfl, rfl⟩ ?_) (fun g => jBk_thr rfl ⟨rfl, rfl⟩ (hI (fun z => g.elim z.2.1.1 (fun y => y z.2.1.2))))
  refine R_iload z26_15 rfl ?_
  refine R_iconst z26_16 (v := 0) (by decide) ?_
  refine R_bipush z26_17 (v := 50) (by decide) ?_
  refine R_cs z26_19 (k := 46) (kind := 1) (by decide +kernel) (by decide) rfl rfl (by decide +kernel) (Nat.le_of_ble_eq_true (by rfl)) rfl ?_
  refine s46 (fun c1 c2 => jBk_ret rfl ⟨rfl, rfl⟩ ?_) (fun g => jBk_thr rfl ⟨rfl, rfl⟩ (hI (fun z => g.elim z.2.2.1 (fun y => y z.2.2.2))))
  refine R_aload z26_22 rfl ?_
  refine R_get z26_23 (k := 3) (f := 0) (by decide +kernel) rfl rfl ?_
  refine R_cv z26_26 (k := 4) (by decide +kernel) rfl rfl (by decide +kernel) (Nat.le_of_ble_eq_true (by rfl)) rfl ⟨rfl, trivial⟩ ?_
  refine s4 (fun g => jBk_ret rfl ⟨rfl, rfl⟩ ?_) (fun g => jBk_ret rfl ⟨rfl, rfl⟩ ?_)
  · refine R_if z26_29 (tn := 42) rfl (fun q => absurd (show (1 : Int32) = 0 from q) (by decide)) (fun _ => ?_)
    exact R_throw z26_32 (q := (45, 47, 49, "java/lang/UnsupportedOperationException", "no room for one more course")) (X := "java/lang/UnsupportedOperationException") (by decide +kernel) rfl rfl (by decide +kernel) (by decide +kernel) (hU ⟨⟨a1, a2⟩, ⟨b1, b2⟩, ⟨c1, c2⟩⟩ (by rw [hW.1, show (16 : Int32) = nI 16 by decide, nlt (by have := hW.2.1; omega) (by omega)] at g; exact g))
  · refine R_if z26_29 (tn := 42) rfl (fun _ => ?_) (fun q => absurd rfl q)
    refine R_aload z26_42 rfl ?_
    refine R_get z26_43 (k := 3) (f := 0) (by decide +kernel) rfl rfl ?_
    refine R_iload z26_46 rfl ?_
    refine R_iload z26_47 rfl ?_
    refine R_iload z26_48 rfl ?_
    refine R_cv z26_49 (k := 5) (by decide +kernel) rfl rfl (by decide +kernel) (Nat.le_of_ble_eq_true (by rfl)) rfl ⟨rfl, trivial⟩ ?_
    have hn : n < 16 := by
      rw [hW.1, show (16 : Int32) = nI 16 by decide, nlt (by have := hW.2.1; omega) (by omega)] at g; exact g
    refine s5 hW.1 hn (jBk_ret rfl ⟨rfl, rfl⟩ ?_)
    exact R_iret z26_52 (Or.inl (by decide +kernel)) ⟨Nat.zero_le _, Nat.zero_le _⟩ (hQ ⟨⟨a1, a2⟩, ⟨b1, b2⟩, ⟨c1, c2⟩⟩ hn)
theorem s28 {l : Launch} {E : jEnv} {A : Nat → Nat → Int32} {V : Nat → Int32} {O : Nat → Int64} {Q : jO → List jC → Prop} {d : Int32} (hI : ¬ jrg d 0 1000 → Q (.inr "java/lang/IndexOutOfBoundsException") (hp A V O)) (hQ : jrg d 0 1000 → Q (.inl none) (hp A (va_up V 1 d) O)) : GO l E 28 0 [some (.ref 0), some (.int d)] [] (hp A V O) 0 0 Q := by
  refine R_iload z28_0 rfl ?_
  refine R_iconst z28_1 (v := 0) (by decide) ?_
  refine R_sipush z28_2 (v := 1000) (by decide) ?_
  refine R_cs z28_5 (k := 46) (kind := 1) (by decide +kernel) (by decide) rfl rfl (by decide +kernel) (Nat.le_of_ble_eq_true (by rfl)) rfl ?_
  refine s46 (fun a1 a2 => jBk_ret rfl ⟨rfl, rfl⟩ ?_) (fun g => jBk_thr rfl ⟨rfl, rfl⟩ (hI (fun z => g.elim z.1 (fun y => y z.2))))
  refine R_aload z28_8 rfl ?_
  refine R_iload z28_9 rfl ?_
  refine R_puti z28_10 (k := 3) (f := 4) (h' := hp A (va_up V 1 d) O) (by decide +kernel) (by decide +kernel) rfl (Nat.le_of_ble_eq_true rfl) rfl ?_
  exact R_vret z28_13 ⟨Nat.zero_le _, Nat.zero_le _⟩ (hQ ⟨a1, a2⟩)
theorem s29 {l : Launch} {E : jEnv} {A : Nat → Nat → Int32} {V : Nat → Int32} {O : Nat → Int64} {Q : jO → List jC → Prop} {d : Int32} (hI : ¬ jrg d (V 0) 9999 → Q (.inr "java/lang/IndexOutOfBoundsException") (hp A V O)) (hS : jrg d (V 0) 9999 → d = V 0 → Q (.inl none) (hp A (va_up V 0 d) O)) (hQ : jrg d (V 0) 9999 → ¬ d = V 0 → Q (.inl none) (hp (va_up A 9 (jfil (A 9) 0 16)) (va_up V 0 d) O)) : GO l E 29 0 [some (.ref 0), some (.int d)] [] (hp A V O) 0 0 Q := by
  refine R_iload z29_0 rfl ?_
  refine R_aload z29_1 rfl ?_
  refine R_get z29_2 (k := 3) (f := 3) (by decide +kernel) rfl rfl ?_
  refine R_sipush z29_5 (v := 9999) (by decide) ?_
  refine R_cs z29_8 (k := 46) (kind := 1) (by decide +kernel) (by decide) rfl rfl (by decide +kernel) (Nat.le_of_ble_eq_true (by rfl)) rfl ?_
  refine s46 (fun a1 a2 => jBk_ret rfl ⟨rfl, rfl⟩ ?_) (fun g => jBk_thr rfl ⟨rfl, rfl⟩ (hI (fun z => g.elim z.1 (fun y => y z.2))))
  refine R_iload z29_11 rfl ?_
  refine R_aload z29_12 rfl ?_
  refine R_get z29_13 (k := 3) (f := 3) (by decide +kernel) rfl rfl ?_
  refine R_icmp z29_16 (tn := 26) rfl (fun (h16 : (d : Int32) = (V 0)) => ?_) (fun (h16 : ¬ (d : Int32) = (V 0)) => ?_)
  · refine R_aload z29_26 rfl ?_
    refine R_iload z29_27 rfl ?_
    refine R_puti z29_28 (k := 3) (f := 3) (h' := hp A (va_up V 0 d) O) (by decide +kernel) (by decide +kernel) rfl (Nat.le_of_ble_eq_true rfl) rfl ?_
    exact R_vret z29_31 ⟨Nat.zero_le _, Nat.zero_le _⟩ (hS ⟨a1, a2⟩ h16)
  · refine R_aload z29_19 rfl ?_
    refine R_get z29_20 (k := 3) (f := 0) (by decide +kernel) rfl rfl ?_
    refine R_cv z29_23 (k := 9) (by decide +kernel) rfl rfl (by decide +kernel) (Nat.le_of_ble_eq_true (by rfl)) rfl ⟨rfl, trivial⟩ ?_
    refine s9 (jBk_ret rfl ⟨rfl, rfl⟩ ?_)
    refine R_aload z29_26 rfl ?_
    refine R_iload z29_27 rfl ?_
    refine R_puti z29_28 (k := 3) (f := 3) (h' := hp (va_up A 9 (jfil (A 9) 0 16)) (va_up V 0 d) O) (by decide +kernel) (by decide +kernel) rfl (Nat.le_of_ble_eq_true rfl) rfl ?_
    exact R_vret z29_31 ⟨Nat.zero_le _, Nat.zero_le _⟩ (hQ ⟨a1, a2⟩ h16)
theorem s39_b {l : Launch} {E : jEnv} {A : Nat → Nat → Int32} {V : Nat → Int32} {O : Nat → Int64} {Q : jO → List jC → Prop} {c n r : Nat} (hW : cWf A V n r) (hc : c < 16) (hcn : c < n) (hQ : Q (.inl (some (.int (cRoom A V c)))) (hp A V O)) : GO l E 39 5 [some (.ref 0), some (.int (nI c))] [] (hp A V O) 0 0 Q := by
  refine R_aload z39_5 rfl ?_
  refine R_iload z39_6 rfl ?_
  refine R_cv z39_7 (k := 57) (by decide +kernel) rfl rfl (by decide +kernel) (Nat.le_of_ble_eq_true (by rfl)) rfl ⟨rfl, trivial⟩ ?_
  refine s57 hW hc (jBk_ret rfl ⟨rfl, rfl⟩ ?_)
  exact R_iret z39_10 (Or.inl (by decide +kernel)) ⟨Nat.zero_le _, Nat.zero_le _⟩ (hQ)
theorem s39 {l : Launch} {E : jEnv} {A : Nat → Nat → Int32} {V : Nat → Int32} {O : Nat → Int64} {Q : jO → List jC → Prop} {c : Int32} {n r : Nat} (hW : cWf A V n r) (hbad : (c < 0 ∨ ¬ c < V 2) → Q (.inr "java/lang/IllegalArgumentException") (hp A V O)) (hok : ∀ c2 : Nat, c = nI c2 → c2 < n → Q (.inl (some (.int (cRoom A V c2)))) (hp A V O)) : GO l E 39 0 [some (.ref 0), some (.int c)] [] (hp A V O) 0 0 Q := by
  refine R_aload z39_0 rfl ?_
  refine R_iload z39_1 rfl ?_
  refine R_cv z39_2 (k := 44) (by decide +kernel) rfl rfl (by decide +kernel) (Nat.le_of_ble_eq_true (by rfl)) rfl ⟨rfl, trivial⟩ ?_
  refine s44 (fun g1 g2 => jBk_ret rfl ⟨rfl, rfl⟩ ?_) (fun g => jBk_thr rfl ⟨rfl, rfl⟩ (hbad g))
  have hn16 := hW.2.1
  rw [hW.1] at g2
  obtain ⟨c2, hc2, rfl⟩ := jnat g1 g2 (by omega)
  exact s39_b hW (by omega) hc2 (hok c2 rfl hc2)
theorem s30_b {l : Launch} {E : jEnv} {A : Nat → Nat → Int32} {V : Nat → Int32} {O : Nat → Int64} {Q : jO → List jC → Prop} {m : Int32} {c n r : Nat} (hW : cWf A V n r) (hc : c < 16) (hcn : c < n) (hQ : ((¬ jrg m 0 10 → Q (.inr "java/lang/IndexOutOfBoundsException") (hp A V O)) ∧ (jrg m 0 10 → Q (.inl none) (hp (va_up A 5 (upd (A 5) c m)) V O)))) : GO l E 30 5 [some (.ref 0), some (.int (nI c)), some (.int m)] [] (hp A V O) 0 0 Q := by
  refine R_iload z30_5 rfl ?_
  refine R_iconst z30_6 (v := 0) (by decide) ?_
  refine R_bipush z30_7 (v := 10) (by decide) ?_
  refine R_cs z30_9 (k := 46) (kind := 1) (by decide +kernel) (by decide) rfl rfl (by decide +kernel) (Nat.le_of_ble_eq_true (by rfl)) rfl ?_
  refine s46 (fun a1 a2 => jBk_ret rfl ⟨rfl, rfl⟩ ?_) (fun g => jBk_thr rfl ⟨rfl, rfl⟩ (hQ.1 (fun z => g.elim z.1 (fun y => y z.2))))
  refine R_aload z30_12 rfl ?_
  refine R_get z30_13 (k := 3) (f := 0) (by decide +kernel) rfl rfl ?_
  refine R_get z30_16 (k := 0) (f := 3) (by decide +kernel) rfl rfl ?_
  refine R_iload z30_19 rfl ?_
  refine R_iload z30_20 rfl ?_
  refine R_ist z30_21 (n := 16) (f := A 5) (h' := hp (va_up A 5 (upd (A 5) c m)) V O) rfl (nin hc (by decide)) (by rw [ncl (by omega)]; rfl) ?_
  exact R_vret z30_22 ⟨Nat.zero_le _, Nat.zero_le _⟩ (hQ.2 ⟨a1, a2⟩)
theorem s30 {l : Launch} {E : jEnv} {A : Nat → Nat → Int32} {V : Nat → Int32} {O : Nat → Int64} {Q : jO → List jC → Prop} {c m : Int32} {n r : Nat} (hW : cWf A V n r) (hbad : (c < 0 ∨ ¬ c < V 2) → Q (.inr "java/lang/IllegalArgumentException") (hp A V O)) (hok : ∀ c2 : Nat, c = nI c2 → c2 < n → ((¬ jrg m 0 10 → Q (.inr "java/lang/IndexOutOfBoundsException") (hp A V O)) ∧ (jrg m 0 10 → Q (.inl none) (hp (va_up A 5 (upd (A 5) c2 m)) V O)))) : GO l E 30 0 [some (.ref 0), some (.int c), some (.int m)] [] (hp A V O) 0 0 Q := by
  refine R_aload z30_0 rfl ?_
  refine R_iload z30_1 rfl ?_
  refine R_cv z30_2 (k := 44) (by decide +kernel) rfl rfl (by decide +kernel) (Nat.le_of_ble_eq_true (by rfl)) rfl ⟨rfl, trivial⟩ ?_
  refine s44 (fun g1 g2 => jBk_ret rfl ⟨rfl, rfl⟩ ?_) (fun g => jBk_thr rfl ⟨rfl, rfl⟩ (hbad g))
  have hn16 := hW.2.1
  rw [hW.1] at g2
  obtain ⟨c2, hc2, rfl⟩ := jnat g1 g2 (by omega)
  exact s30_b hW (by omega) hc2 (hok c2 rfl hc2)
def cTom (A : Nat → Nat → Int32) (V : Nat → Int32) (c : Nat) (i : Int32) : Nat → Nat → Int32 → Int32
  | 0, _, _ => -1
  | d + 1, k, b => if cLap A k c = V 0 + 1 then (if b = i then nI k else cTom A V c i d (k + 1) (b + 1)) else cTom A V c i d (k + 1) b
theorem s42_lp {l : Launch} {E : jEnv} {A : Nat → Nat → Int32} {V : Nat → Int32} {O : Nat → Int64} {Q : jO → List jC → Prop} {c n r : Nat} {i : Int32} (hW : cWf A V n r) (hc : c < 16) : ∀ (d k : Nat) (b : Int32), k + d = 20 → Q (.inl (some (.int (cTom A V c i d k b)))) (hp A V O) → GO l E 42 24 [some (.ref 0), some (.int (nI c)), some (.int i), some (.int b), some (.int (nI k))] [] (hp A V O) 0 0 Q := by
  intro d
  induction d with
  | zero =>
    intro k b hk hQ
    have hn16 := hW.2.1
    have hr300 := hW.2.2.2.1
    refine R_iload z42_24 rfl ?_
    refine R_bipush z42_26 (v := 20) (by decide) ?_
    refine R_icmp z42_28 (tn := 64) rfl (fun (h28 : (20 : Int32) ≤ (nI k)) => ?_) (fun q => absurd ((show (20 : Int32) ≤ nI k by rw [n20, nge (by omega) (by omega)]; omega)) q)
    refine R_iconst z42_64 (v := (-1)) (by decide) ?_
    exact R_iret z42_65 (Or.inl (by decide +kernel)) ⟨Nat.zero_le _, Nat.zero_le _⟩ (hQ)
  | succ d ih =>
    intro k b hk hQ
    have hn16 := hW.2.1
    have hr300 := hW.2.2.2.1
    refine R_iload z42_24 rfl ?_
    refine R_bipush z42_26 (v := 20) (by decide) ?_
    refine R_icmp z42_28 (tn := 64) rfl (fun q => absurd q ((show ¬ (20 : Int32) ≤ nI k by rw [n20, nge (by omega) (by omega)]; omega))) (fun (h28 : ¬ (20 : Int32) ≤ (nI k)) => ?_)
    refine R_aload z42_31 rfl ?_
    refine R_iload z42_32 rfl ?_
    refine R_iload z42_34 rfl ?_
    refine R_cv z42_35 (k := 52) (by decide +kernel) rfl rfl (by decide +kernel) (Nat.le_of_ble_eq_true (by rfl)) rfl ⟨rfl, trivial⟩ ?_
    refine s52 hW (by omega) hc (jBk_ret rfl ⟨rfl, rfl⟩ ?_)
    refine R_aload z42_38 rfl ?_
    refine R_get z42_39 (k := 3) (f := 3) (by decide +kernel) rfl rfl ?_
    refine R_iconst z42_42 (v := 1) (by decide) ?_
    refine R_iadd z42_43 ?_
    refine R_icmp z42_44 (tn := 58) rfl (fun (h44 : ¬ ((cLap A k c) : Int32) = ((V 0) + 1)) => ?_) (fun (h44 : ¬ (¬ ((cLap A k c) : Int32) = ((V 0) + 1))) => ?_)
    · refine R_iinc z42_58 (v := 1) (loc' := [some (.ref 0), some (.int (nI c)), some (.int i), some (.int b), some (.int (nI (k + 1)))]) rfl rfl (by decide) (by rw [nI_1]; rfl) ?_
      refine R_goto z42_61 (tn := 24) rfl ?_
      rw [cTom, if_neg h44] at hQ
      exact ih (k + 1) _ (by omega) hQ
    · refine R_iload z42_47 rfl ?_
      refine R_iload z42_48 rfl ?_
      refine R_icmp z42_49 (tn := 55) rfl (fun (h49 : ¬ (b : Int32) = i) => ?_) (fun (h49 : ¬ (¬ (b : Int32) = i)) => ?_)
      · refine R_iinc z42_55 (v := 1) (loc' := [some (.ref 0), some (.int (nI c)), some (.int i), some (.int (b + 1)), some (.int (nI k))]) rfl rfl (by decide) (rfl) ?_
        refine R_iinc z42_58 (v := 1) (loc' := [some (.ref 0), some (.int (nI c)), some (.int i), some (.int (b + 1)), some (.int (nI (k + 1)))]) rfl rfl (by decide) (by rw [nI_1]; rfl) ?_
        refine R_goto z42_61 (tn := 24) rfl ?_
        rw [cTom, if_pos (Classical.not_not.mp h44), if_neg h49] at hQ
        exact ih (k + 1) _ (by omega) hQ
      · refine R_iload z42_52 rfl ?_
        exact R_iret z42_54 (Or.inl (by decide +kernel)) ⟨Nat.zero_le _, Nat.zero_le _⟩ (by rw [cTom, if_pos (Classical.not_not.mp h44), if_pos (Classical.not_not.mp h49)] at hQ; exact hQ)
theorem s42_b {l : Launch} {E : jEnv} {A : Nat → Nat → Int32} {V : Nat → Int32} {O : Nat → Int64} {Q : jO → List jC → Prop} {i : Int32} {c n r : Nat} (hW : cWf A V n r) (hc : c < 16) (hcn : c < n) (hQ : ((i < 0 → Q (.inr "java/lang/IndexOutOfBoundsException") (hp A V O)) ∧ (¬ i < 0 → Q (.inl (some (.int (cTom A V c i 20 0 0)))) (hp A V O)))) : GO l E 42 5 [some (.ref 0), some (.int (nI c)), some (.int i), none, none] [] (hp A V O) 0 0 Q := by
  refine R_iload z42_5 rfl ?_
  refine R_if z42_6 (tn := 19) rfl (fun (h6 : (0 : Int32) ≤ i) => ?_) (fun (h6 : ¬ (0 : Int32) ≤ i) => ?_)
  · refine R_iconst z42_19 (v := 0) (by decide) ?_
    refine R_istore z42_20 (loc' := [some (.ref 0), some (.int (nI c)), some (.int i), some (.int 0), none]) rfl rfl ?_
    refine R_iconst z42_21 (v := 0) (by decide) ?_
    refine R_istore z42_22 (loc' := [some (.ref 0), some (.int (nI c)), some (.int i), some (.int 0), some (.int 0)]) rfl rfl ?_
    exact s42_lp hW hc 20 0 0 (by omega) (hQ.2 (Int32.not_lt.mpr h6))
  · exact R_throw z42_9 (q := (183, 185, 187, "java/lang/IndexOutOfBoundsException", "a place in a row is 0 at least")) (X := "java/lang/IndexOutOfBoundsException") (by decide +kernel) rfl rfl (by decide +kernel) (by decide +kernel) (hQ.1 (Int32.not_le.mp h6))
theorem s42 {l : Launch} {E : jEnv} {A : Nat → Nat → Int32} {V : Nat → Int32} {O : Nat → Int64} {Q : jO → List jC → Prop} {c i : Int32} {n r : Nat} (hW : cWf A V n r) (hbad : (c < 0 ∨ ¬ c < V 2) → Q (.inr "java/lang/IllegalArgumentException") (hp A V O)) (hok : ∀ c2 : Nat, c = nI c2 → c2 < n → ((i < 0 → Q (.inr "java/lang/IndexOutOfBoundsException") (hp A V O)) ∧ (¬ i < 0 → Q (.inl (some (.int (cTom A V c2 i 20 0 0)))) (hp A V O)))) : GO l E 42 0 [some (.ref 0), some (.int c), some (.int i), none, none] [] (hp A V O) 0 0 Q := by
  refine R_aload z42_0 rfl ?_
  refine R_iload z42_1 rfl ?_
  refine R_cv z42_2 (k := 44) (by decide +kernel) rfl rfl (by decide +kernel) (Nat.le_of_ble_eq_true (by rfl)) rfl ⟨rfl, trivial⟩ ?_
  refine s44 (fun g1 g2 => jBk_ret rfl ⟨rfl, rfl⟩ ?_) (fun g => jBk_thr rfl ⟨rfl, rfl⟩ (hbad g))
  have hn16 := hW.2.1
  rw [hW.1] at g2
  obtain ⟨c2, hc2, rfl⟩ := jnat g1 g2 (by omega)
  exact s42_b hW (by omega) hc2 (hok c2 rfl hc2)
theorem s27_b {l : Launch} {E : jEnv} {A : Nat → Nat → Int32} {V : Nat → Int32} {O : Nat → Int64} {Q : jO → List jC → Prop} {c o n r : Nat} (hW : cWf A V n r) (hc : c < 16) (ho : o < 16) (hQ : (((c = o ∨ jbit (A 7 o) (nI c)) → Q (.inr "java/lang/IllegalStateException") (hp A V O)) ∧ (¬ (c = o ∨ jbit (A 7 o) (nI c)) → jbit (A 6 c) (nI o) → Q (.inr "java/lang/IllegalStateException") (hp A V O)) ∧ (¬ (c = o ∨ jbit (A 7 o) (nI c)) → ¬ jbit (A 6 c) (nI o) → Q (.inl none) (hp (cNeed A c o n) V O)))) : GO l E 27 10 [some (.ref 0), some (.int (nI c)), some (.int (nI o))] [] (hp A V O) 0 0 Q := by
  refine R_aload z27_10 rfl ?_
  refine R_get z27_11 (k := 3) (f := 0) (by decide +kernel) rfl rfl ?_
  refine R_iload z27_14 rfl ?_
  refine R_iload z27_15 rfl ?_
  refine R_cv z27_16 (k := 6) (by decide +kernel) rfl rfl (by decide +kernel) (Nat.le_of_ble_eq_true (by rfl)) rfl ⟨rfl, trivial⟩ ?_
  refine s6 hc ho (fun g => ?y1) (fun g => jBk_ret rfl ⟨rfl, rfl⟩ ?y2)
  rotate_left
  · refine R_if z27_19 (tn := 32) rfl (fun _ => ?_) (fun q => absurd (show (0 : Int32) = 0 by decide) q)
    refine R_aload z27_32 rfl ?_
    refine R_get z27_33 (k := 3) (f := 0) (by decide +kernel) rfl rfl ?_
    refine R_get z27_36 (k := 0) (f := 4) (by decide +kernel) rfl rfl ?_
    refine R_iload z27_39 rfl ?_
    refine R_ild z27_40 (n := 16) (f := A 6) (v := (A 6 c)) rfl (nin hc (by decide)) (by rw [ncl (by omega)]) ?_
    refine R_iload z27_41 rfl ?_
    refine R_cs z27_42 (k := 49) (kind := 1) (by decide +kernel) (by decide) rfl rfl (by decide +kernel) (Nat.le_of_ble_eq_true (by rfl)) rfl ?_
    refine s49 (fun g2 => ?y3) (fun g2 => jBk_ret rfl ⟨rfl, rfl⟩ ?y4)
    rotate_left
    · refine R_if z27_45 (tn := 58) rfl (fun _ => ?_) (fun q => absurd (show (0 : Int32) = 0 by decide) q)
      refine R_aload z27_58 rfl ?_
      refine R_get z27_59 (k := 3) (f := 0) (by decide +kernel) rfl rfl ?_
      refine R_iload z27_62 rfl ?_
      refine R_iload z27_63 rfl ?_
      refine R_cv z27_64 (k := 7) (by decide +kernel) rfl rfl (by decide +kernel) (Nat.le_of_ble_eq_true (by rfl)) rfl ⟨rfl, trivial⟩ ?_
      refine s7 hW.1 hW.2.1 hc ho (jBk_ret rfl ⟨rfl, rfl⟩ ?_)
      exact R_vret z27_67 ⟨Nat.zero_le _, Nat.zero_le _⟩ (hQ.2.2 g g2)
    · refine jBk_ret rfl ⟨rfl, rfl⟩ ?_
      refine R_if z27_45 (tn := 58) rfl (fun q => absurd (show (1 : Int32) = 0 from q) (by decide)) (fun _ => ?_)
      exact R_throw z27_48 (q := (64, 76, 68, "java/lang/IllegalStateException", "the course needs that one already")) (X := "java/lang/IllegalStateException") (by decide +kernel) rfl rfl (by decide +kernel) (by decide +kernel) (hQ.2.1 g g2)
  · refine jBk_ret rfl ⟨rfl, rfl⟩ ?_
    refine R_if z27_19 (tn := 32) rfl (fun q => absurd (show (1 : Int32) = 0 from q) (by decide)) (fun _ => ?_)
    exact R_throw z27_22 (q := (64, 66, 68, "java/lang/IllegalStateException", "the course would need itself")) (X := "java/lang/IllegalStateException") (by decide +kernel) rfl rfl (by decide +kernel) (by decide +kernel) (hQ.1 g)
theorem s27 {l : Launch} {E : jEnv} {A : Nat → Nat → Int32} {V : Nat → Int32} {O : Nat → Int64} {Q : jO → List jC → Prop} {c o : Int32} {n r : Nat} (hW : cWf A V n r) (hbad : (c < 0 ∨ ¬ c < V 2 ∨ o < 0 ∨ ¬ o < V 2) → Q (.inr "java/lang/IllegalArgumentException") (hp A V O)) (hok : ∀ c2 o2 : Nat, c = nI c2 → o = nI o2 → c2 < n → o2 < n → (((c2 = o2 ∨ jbit (A 7 o2) (nI c2)) → Q (.inr "java/lang/IllegalStateException") (hp A V O)) ∧ (¬ (c2 = o2 ∨ jbit (A 7 o2) (nI c2)) → jbit (A 6 c2) (nI o2) → Q (.inr "java/lang/IllegalStateException") (hp A V O)) ∧ (¬ (c2 = o2 ∨ jbit (A 7 o2) (nI c2)) → ¬ jbit (A 6 c2) (nI o2) → Q (.inl none) (hp (cNeed A c2 o2 n) V O)))) : GO l E 27 0 [some (.ref 0), some (.int c), some (.int o)] [] (hp A V O) 0 0 Q := by
  refine R_aload z27_0 rfl ?_
  refine R_iload z27_1 rfl ?_
  refine R_cv z27_2 (k := 44) (by decide +kernel) rfl rfl (by decide +kernel) (Nat.le_of_ble_eq_true (by rfl)) rfl ⟨rfl, trivial⟩ ?_
  refine s44 (fun g1 g2 => jBk_ret rfl ⟨rfl, rfl⟩ ?_) (fun g => jBk_thr rfl ⟨rfl, rfl⟩ (hbad (g.elim Or.inl (fun y => Or.inr (Or.inl y)))))
  refine R_aload z27_5 rfl ?_
  refine R_iload z27_6 rfl ?_
  refine R_cv z27_7 (k := 44) (by decide +kernel) rfl rfl (by decide +kernel) (Nat.le_of_ble_eq_true (by rfl)) rfl ⟨rfl, trivial⟩ ?_
  refine s44 (fun g3 g4 => jBk_ret rfl ⟨rfl, rfl⟩ ?_) (fun g => jBk_thr rfl ⟨rfl, rfl⟩ (hbad (Or.inr (Or.inr g))))
  have hn16 := hW.2.1
  rw [hW.1] at g2 g4
  obtain ⟨c2, hc2, rfl⟩ := jnat g1 g2 (by omega)
  obtain ⟨o2, ho2, rfl⟩ := jnat g3 g4 (by omega)
  exact s27_b hW (by omega) (by omega) (hok c2 o2 rfl rfl hc2 ho2)
theorem s41 {l : Launch} {E : jEnv} {A : Nat → Nat → Int32} {V : Nat → Int32} {O : Nat → Int64} {Q : jO → List jC → Prop} {s0 : Int32} {k : Nat} (hk : V 5 = nI k) (hk2 : k ≤ 12) (hbad : (s0 < 0 ∨ ¬ s0 < V 5) → Q (.inr "java/lang/IllegalArgumentException") (hp A V O)) (hok : ∀ j : Nat, s0 = nI j → j < k → Q (.inl (some (.int (A 21 j)))) (hp A V O)) : GO l E 41 0 [some (.ref 0), some (.int s0)] [] (hp A V O) 0 0 Q := by
  refine R_iload z41_0 rfl ?_
  refine R_if z41_1 (tn := 15) rfl (fun (h1 : (s0 : Int32) < 0) => ?_) (fun (h1 : ¬ (s0 : Int32) < 0) => ?_)
  · exact R_throw z41_15 (q := (175, 177, 179, "java/lang/IllegalArgumentException", "the latest plan has no such seat")) (X := "java/lang/IllegalArgumentException") (by decide +kernel) rfl rfl (by decide +kernel) (by decide +kernel) (hbad (Or.inl h1))
  · refine R_iload z41_4 rfl ?_
    refine R_aload z41_5 rfl ?_
    refine R_get z41_6 (k := 3) (f := 2) (by decide +kernel) rfl rfl ?_
    refine R_get z41_9 (k := 2) (f := 5) (by decide +kernel) rfl rfl ?_
    refine R_icmp z41_12 (tn := 25) rfl (fun (h12 : (s0 : Int32) < (V 5)) => ?_) (fun (h12 : ¬ (s0 : Int32) < (V 5)) => ?_)
    · rw [hk] at h12
      obtain ⟨j, hj, ej⟩ := jnat h1 h12 (by omega)
      refine R_aload z41_25 rfl ?_
      refine R_get z41_26 (k := 3) (f := 2) (by decide +kernel) rfl rfl ?_
      refine R_get z41_29 (k := 2) (f := 1) (by decide +kernel) rfl rfl ?_
      refine R_iload z41_32 rfl ?_
      refine R_ild z41_33 (n := 12) (f := A 21) (v := (A 21 j)) rfl (by rw [ej]; exact nin (by omega) (by decide)) (by rw [ej, ncl (by omega)]) ?_
      exact R_iret z41_34 (Or.inl (by decide +kernel)) ⟨Nat.zero_le _, Nat.zero_le _⟩ (hok j ej hj)
    · exact R_throw z41_15 (q := (175, 177, 179, "java/lang/IllegalArgumentException", "the latest plan has no such seat")) (X := "java/lang/IllegalArgumentException") (by decide +kernel) rfl rfl (by decide +kernel) (by decide +kernel) (hbad (Or.inr h12))
theorem s33_1b {l : Launch} {E : jEnv} {A : Nat → Nat → Int32} {V : Nat → Int32} {O : Nat → Int64} {Q : jO → List jC → Prop} {p c n r : Nat} (hW : cWf A V n r) (hp2 : p < 20) (hc : c < 16) (g : ¬ jbit (A 8 c) (nI p)) (hQ : ((jbit (A 8 c) (nI p) → Q (.inr "java/lang/IllegalStateException") (hp A V O)) ∧ (¬ jbit (A 8 c) (nI p) → ¬ cHold A V p c → Q (.inr "java/lang/IllegalStateException") (hp A V O)) ∧ (¬ jbit (A 8 c) (nI p) → cHold A V p c → Q (.inl none) (hp (va_up A 8 (upd (A 8) c (A 8 c ^^^ (1 : Int32) <<< (nI p &&& 31)))) V O)))) : GO l E 33 33 [some (.ref 0), some (.int (nI p)), some (.int (nI c)), some (.int 1)] [] (hp A V O) 0 0 Q := by
  refine R_iload z33_33 rfl ?_
  refine R_if z33_34 (tn := 56) rfl (fun q => absurd (show (1 : Int32) = 0 from q) (by decide)) (fun _ => ?_)
  refine R_aload z33_37 rfl ?_
  refine R_iload z33_38 rfl ?_
  refine R_iload z33_39 rfl ?_
  refine R_cv z33_40 (k := 54) (by decide +kernel) rfl rfl (by decide +kernel) (Nat.le_of_ble_eq_true (by rfl)) rfl ⟨rfl, trivial⟩ ?_
  refine s54 hW hp2 hc (fun g2 => jBk_ret rfl ⟨rfl, rfl⟩ ?_) (fun g2 => jBk_ret rfl ⟨rfl, rfl⟩ ?_)
  · refine R_if z33_43 (tn := 56) rfl (fun _ => ?_) (fun q => absurd (show ¬ (1 : Int32) = 0 by decide) q)
    refine R_aload z33_56 rfl ?_
    refine R_get z33_57 (k := 3) (f := 0) (by decide +kernel) rfl rfl ?_
    refine R_get z33_60 (k := 0) (f := 6) (by decide +kernel) rfl rfl ?_
    refine R_iload z33_63 rfl ?_
    refine R_dup2 z33_64 ?_
    refine R_ild z33_65 (n := 16) (f := A 8) (v := (A 8 c)) rfl (nin hc (by decide)) (by rw [ncl (by omega)]) ?_
    refine R_iconst z33_66 (v := 1) (by decide) ?_
    refine R_iload z33_67 rfl ?_
    refine R_ishl z33_68 ?_
    refine R_ixor z33_69 ?_
    refine R_ist z33_70 (n := 16) (f := A 8) (h' := hp (va_up A 8 (upd (A 8) c (A 8 c ^^^ (1 : Int32) <<< (nI p &&& 31)))) V O) rfl (nin hc (by decide)) (by rw [ncl (by omega)]; rfl) ?_
    exact R_vret z33_71 ⟨Nat.zero_le _, Nat.zero_le _⟩ (hQ.2.2 g g2)
  · refine R_if z33_43 (tn := 56) rfl (fun q => absurd rfl q) (fun _ => ?_)
    exact R_throw z33_46 (q := (64, 127, 68, "java/lang/IllegalStateException", "the person does not hold the course")) (X := "java/lang/IllegalStateException") (by decide +kernel) rfl rfl (by decide +kernel) (by decide +kernel) (hQ.2.1 g g2)
theorem s33_1 {l : Launch} {E : jEnv} {A : Nat → Nat → Int32} {V : Nat → Int32} {O : Nat → Int64} {Q : jO → List jC → Prop} {p c n r : Nat} (hW : cWf A V n r) (hp2 : p < 20) (hc : c < 16) (hQ : ((jbit (A 8 c) (nI p) → Q (.inr "java/lang/IllegalStateException") (hp A V O)) ∧ (¬ jbit (A 8 c) (nI p) → ¬ cHold A V p c → Q (.inr "java/lang/IllegalStateException") (hp A V O)) ∧ (¬ jbit (A 8 c) (nI p) → cHold A V p c → Q (.inl none) (hp (va_up A 8 (upd (A 8) c (A 8 c ^^^ (1 : Int32) <<< (nI p &&& 31)))) V O)))) : GO l E 33 6 [some (.ref 0), some (.int (nI p)), some (.int (nI c)), some (.int 1)] [] (hp A V O) 0 0 Q := by
  refine R_aload z33_6 rfl ?_
  refine R_get z33_7 (k := 3) (f := 0) (by decide +kernel) rfl rfl ?_
  refine R_get z33_10 (k := 0) (f := 6) (by decide +kernel) rfl rfl ?_
  refine R_iload z33_13 rfl ?_
  refine R_ild z33_14 (n := 16) (f := A 8) (v := (A 8 c)) rfl (nin hc (by decide)) (by rw [ncl (by omega)]) ?_
  refine R_iload z33_15 rfl ?_
  refine R_cs z33_16 (k := 49) (kind := 1) (by decide +kernel) (by decide) rfl rfl (by decide +kernel) (Nat.le_of_ble_eq_true (by rfl)) rfl ?_
  refine s49 (fun g => jBk_ret rfl ⟨rfl, rfl⟩ ?_) (fun g => jBk_ret rfl ⟨rfl, rfl⟩ ?_)
  · refine R_iload z33_19 rfl ?_
    refine R_icmp z33_20 (tn := 33) rfl (fun q => absurd (show ¬ (1 : Int32) = 1 from q) (by decide)) (fun _ => ?_)
    exact R_throw z33_23 (q := (64, 122, 68, "java/lang/IllegalStateException", "it is so already")) (X := "java/lang/IllegalStateException") (by decide +kernel) rfl rfl (by decide +kernel) (by decide +kernel) (hQ.1 g)
  · refine R_iload z33_19 rfl ?_
    refine R_icmp z33_20 (tn := 33) rfl (fun _ => ?_) (fun q => absurd (show ¬ (0 : Int32) = 1 by decide) q)
    exact s33_1b hW hp2 hc g hQ
theorem s33_0 {l : Launch} {E : jEnv} {A : Nat → Nat → Int32} {V : Nat → Int32} {O : Nat → Int64} {Q : jO → List jC → Prop} {p c n r : Nat} (hW : cWf A V n r) (hp2 : p < 20) (hc : c < 16) (hQ : ((¬ jbit (A 8 c) (nI p) → Q (.inr "java/lang/IllegalStateException") (hp A V O)) ∧ (jbit (A 8 c) (nI p) → Q (.inl none) (hp (va_up A 8 (upd (A 8) c (A 8 c ^^^ (1 : Int32) <<< (nI p &&& 31)))) V O)))) : GO l E 33 6 [some (.ref 0), some (.int (nI p)), some (.int (nI c)), some (.int 0)] [] (hp A V O) 0 0 Q := by
  refine R_aload z33_6 rfl ?_
  refine R_get z33_7 (k := 3) (f := 0) (by decide +kernel) rfl rfl ?_
  refine R_get z33_10 (k := 0) (f := 6) (by decide +kernel) rfl rfl ?_
  refine R_iload z33_13 rfl ?_
  refine R_ild z33_14 (n := 16) (f := A 8) (v := (A 8 c)) rfl (nin hc (by decide)) (by rw [ncl (by omega)]) ?_
  refine R_iload z33_15 rfl ?_
  refine R_cs z33_16 (k := 49) (kind := 1) (by decide +kernel) (by decide) rfl rfl (by decide +kernel) (Nat.le_of_ble_eq_true (by rfl)) rfl ?_
  refine s49 (fun g => jBk_ret rfl ⟨rfl, rfl⟩ ?_) (fun g => jBk_ret rfl ⟨rfl, rfl⟩ ?_)
  · refine R_iload z33_19 rfl ?_
    refine R_icmp z33_20 (tn := 33) rfl (fun _ => ?_) (fun q => absurd (show ¬ (1 : Int32) = 0 by decide) q)
    refine R_iload z33_33 rfl ?_
    refine R_if z33_34 (tn := 56) rfl (fun _ => ?_) (fun q => absurd (show (0 : Int32) = 0 by decide) q)
    refine R_aload z33_56 rfl ?_
    refine R_get z33_57 (k := 3) (f := 0) (by decide +kernel) rfl rfl ?_
    refine R_get z33_60 (k := 0) (f := 6) (by decide +kernel) rfl rfl ?_
    refine R_iload z33_63 rfl ?_
    refine R_dup2 z33_64 ?_
    refine R_ild z33_65 (n := 16) (f := A 8) (v := (A 8 c)) rfl (nin hc (by decide)) (by rw [ncl (by omega)]) ?_
    refine R_iconst z33_66 (v := 1) (by decide) ?_
    refine R_iload z33_67 rfl ?_
    refine R_ishl z33_68 ?_
    refine R_ixor z33_69 ?_
    refine R_ist z33_70 (n := 16) (f := A 8) (h' := hp (va_up A 8 (upd (A 8) c (A 8 c ^^^ (1 : Int32) <<< (nI p &&& 31)))) V O) rfl (nin hc (by decide)) (by rw [ncl (by omega)]; rfl) ?_
    exact R_vret z33_71 ⟨Nat.zero_le _, Nat.zero_le _⟩ (hQ.2 g)
  · refine R_iload z33_19 rfl ?_
    refine R_icmp z33_20 (tn := 33) rfl (fun q => absurd rfl q) (fun _ => ?_)
    exact R_throw z33_23 (q := (64, 122, 68, "java/lang/IllegalStateException", "it is so already")) (X := "java/lang/IllegalStateException") (by decide +kernel) rfl rfl (by decide +kernel) (by decide +kernel) (hQ.1 g)
theorem s33_1f {l : Launch} {E : jEnv} {A : Nat → Nat → Int32} {V : Nat → Int32} {O : Nat → Int64} {Q : jO → List jC → Prop} {p c : Int32} {n r : Nat} (hW : cWf A V n r) (hbad : jbad V p c → Q (.inr "java/lang/IllegalArgumentException") (hp A V O)) (hok : ∀ p2 c2 : Nat, p = nI p2 → c = nI c2 → p2 < 20 → c2 < n → ((jbit (A 8 c2) (nI p2) → Q (.inr "java/lang/IllegalStateException") (hp A V O)) ∧ (¬ jbit (A 8 c2) (nI p2) → ¬ cHold A V p2 c2 → Q (.inr "java/lang/IllegalStateException") (hp A V O)) ∧ (¬ jbit (A 8 c2) (nI p2) → cHold A V p2 c2 → Q (.inl none) (hp (va_up A 8 (upd (A 8) c2 (A 8 c2 ^^^ (1 : Int32) <<< (nI p2 &&& 31)))) V O)))) : GO l E 33 0 [some (.ref 0), some (.int p), some (.int c), some (.int 1)] [] (hp A V O) 0 0 Q := by
  refine R_aload z33_0 rfl ?_
  refine R_iload z33_1 rfl ?_
  refine R_iload z33_2 rfl ?_
  refine R_cv z33_3 (k := 45) (by decide +kernel) rfl rfl (by decide +kernel) (Nat.le_of_ble_eq_true (by rfl)) rfl ⟨rfl, trivial⟩ ?_
  refine s45 (fun g1 g2 g3 g4 => jBk_ret rfl ⟨rfl, rfl⟩ ?_) (fun g => jBk_thr rfl ⟨rfl, rfl⟩ (hbad g))
  have hn16 := hW.2.1
  rw [n20] at g2
  rw [hW.1] at g4
  obtain ⟨p2, hp2, rfl⟩ := jnat g1 g2 (by omega)
  obtain ⟨c2, hc2, rfl⟩ := jnat g3 g4 (by omega)
  exact s33_1 hW hp2 (by omega) (hok p2 c2 rfl rfl hp2 hc2)
theorem s33_0f {l : Launch} {E : jEnv} {A : Nat → Nat → Int32} {V : Nat → Int32} {O : Nat → Int64} {Q : jO → List jC → Prop} {p c : Int32} {n r : Nat} (hW : cWf A V n r) (hbad : jbad V p c → Q (.inr "java/lang/IllegalArgumentException") (hp A V O)) (hok : ∀ p2 c2 : Nat, p = nI p2 → c = nI c2 → p2 < 20 → c2 < n → ((¬ jbit (A 8 c2) (nI p2) → Q (.inr "java/lang/IllegalStateException") (hp A V O)) ∧ (jbit (A 8 c2) (nI p2) → Q (.inl none) (hp (va_up A 8 (upd (A 8) c2 (A 8 c2 ^^^ (1 : Int32) <<< (nI p2 &&& 31)))) V O)))) : GO l E 33 0 [some (.ref 0), some (.int p), some (.int c), some (.int 0)] [] (hp A V O) 0 0 Q := by
  refine R_aload z33_0 rfl ?_
  refine R_iload z33_1 rfl ?_
  refine R_iload z33_2 rfl ?_
  refine R_cv z33_3 (k := 45) (by decide +kernel) rfl rfl (by decide +kernel) (Nat.le_of_ble_eq_true (by rfl)) rfl ⟨rfl, trivial⟩ ?_
  refine s45 (fun g1 g2 g3 g4 => jBk_ret rfl ⟨rfl, rfl⟩ ?_) (fun g => jBk_thr rfl ⟨rfl, rfl⟩ (hbad g))
  have hn16 := hW.2.1
  rw [n20] at g2
  rw [hW.1] at g4
  obtain ⟨p2, hp2, rfl⟩ := jnat g1 g2 (by omega)
  obtain ⟨c2, hc2, rfl⟩ := jnat g3 g4 (by omega)
  exact s33_0 hW hp2 (by omega) (hok p2 c2 rfl rfl hp2 hc2)
end
section
theorem nI_int {x : Int32} {k : Nat} (h : x.toInt = k) (hk : k < 20000) : x = nI k := by
  apply Int32.toInt_inj.mp
  rw [h, nI_toInt (by omega)]
theorem w43 {w : Int32} (hx : w.toInt < 0 ∨ 3 < w.toInt) : w < 0 ∨ ¬ w ≤ 3 := by
  have h3 : (3 : Int32).toInt = 3 := by decide
  rcases hx with g | g
  · exact Or.inl (Int32.lt_iff_toInt_lt.mpr g)
  · refine Or.inr (fun z => ?_)
    have := Int32.le_iff_toInt_le.mp z
    omega
theorem s43 {l : Launch} {E : jEnv} {A : Nat → Nat → Int32} {V : Nat → Int32} {O : Nat → Int64} {Q : jO → List jC → Prop} {w : Int32} {n r : Nat} (hW : cWf A V n r) (h0 : w = 0 → Q (.inl (some (.int (V 2)))) (hp A V O)) (h1 : w = 1 → Q (.inl (some (.int (V 3)))) (hp A V O)) (h2 : w = 2 → Q (.inl (some (.int (V 4)))) (hp A V O)) (h3 : w = 3 → Q (.inl (some (.int (nI (cAll A V n))))) (hp A V O)) (hbad : (w < 0 ∨ ¬ w ≤ 3) → Q (.inr "java/lang/IllegalArgumentException") (hp A V O)) : GO l E 43 0 [some (.ref 0), some (.int w)] [] (hp A V O) 0 0 Q := by
  refine R_iload z43_0 rfl ?_
  refine R_tsw z43_1 (fun k t hk hx => ?_) (fun hx => ?_)
  · have hx2 : w.toInt = (k : Int) := by omega
    match k, hk with
    | 0, hk =>
      cases hk
      have ew : w = 0 := nI_int hx2 (by decide)
      refine R_aload z43_32 rfl ?_
      refine R_get z43_33 (k := 3) (f := 0) (by decide +kernel) rfl rfl ?_
      refine R_get z43_36 (k := 0) (f := 9) (by decide +kernel) rfl rfl ?_
      exact R_iret z43_39 (Or.inl (by decide +kernel)) ⟨Nat.zero_le _, Nat.zero_le _⟩ (h0 ew)
    | 1, hk =>
      cases hk
      have ew : w = 1 := nI_int hx2 (by decide)
      refine R_aload z43_40 rfl ?_
      refine R_get z43_41 (k := 3) (f := 1) (by decide +kernel) rfl rfl ?_
      refine R_get z43_44 (k := 1) (f := 7) (by decide +kernel) rfl rfl ?_
      exact R_iret z43_47 (Or.inl (by decide +kernel)) ⟨Nat.zero_le _, Nat.zero_le _⟩ (h1 ew)
    | 2, hk =>
      cases hk
      have ew : w = 2 := nI_int hx2 (by decide)
      refine R_aload z43_48 rfl ?_
      refine R_get z43_49 (k := 3) (f := 1) (by decide +kernel) rfl rfl ?_
      refine R_get z43_52 (k := 1) (f := 8) (by decide +kernel) rfl rfl ?_
      exact R_iret z43_55 (Or.inl (by decide +kernel)) ⟨Nat.zero_le _, Nat.zero_le _⟩ (h2 ew)
    | 3, hk =>
      cases hk
      have ew : w = 3 := nI_int hx2 (by decide)
      refine R_aload z43_56 rfl ?_
      refine R_cv z43_57 (k := 59) (by decide +kernel) rfl rfl (by decide +kernel) (Nat.le_of_ble_eq_true (by rfl)) rfl ⟨rfl, trivial⟩ ?_
      refine s59 hW (jBk_ret rfl ⟨rfl, rfl⟩ ?_)
      exact R_iret z43_60 (Or.inl (by decide +kernel)) ⟨Nat.zero_le _, Nat.zero_le _⟩ (h3 ew)
    | k + 4, hk => simp at hk
  · exact R_throw z43_61 (q := (175, 200, 179, "java/lang/IllegalArgumentException", "no such count")) (X := "java/lang/IllegalArgumentException") (by decide +kernel) rfl rfl (by decide +kernel) (by decide +kernel) (hbad (w43 hx))
/-- who of the first k persons may be on a seat of c: bits -/
def cFit (A : Nat → Nat → Int32) (V : Nat → Int32) (c : Nat) (days : Int32) : Nat → Int32
  | 0 => 0
  | k + 1 => if ¬ cLap A k c - V 0 ≤ 0 ∧ ¬ days < cLap A k c - V 0 then cFit A V c days k ||| (1 : Int32) <<< (nI k &&& 31) else cFit A V c days k
theorem s60_lp {l : Launch} {E : jEnv} {A : Nat → Nat → Int32} {V : Nat → Int32} {O : Nat → Int64} {Q : jO → List jC → Prop} {c n r : Nat} {days : Int32} (hW : cWf A V n r) (hc : c < 16) (hQ : Q (.inl (some (.int (cFit A V c days 20)))) (hp A V O)) : ∀ (d k : Nat), k + d = 20 →  GO l E 60 5 [some (.ref 0), some (.int (nI c)), some (.int days), some (.int (cFit A V c days k)), some (.int (nI k)), none] [] (hp A V O) 0 0 Q := by
  intro d
  induction d with
  | zero =>
    intro k hk 
    have hn16 := hW.2.1
    have hr300 := hW.2.2.2.1
    refine R_iload z60_5 rfl ?_
    refine R_bipush z60_7 (v := 20) (by decide) ?_
    refine R_icmp z60_9 (tn := 50) rfl (fun (h9 : (20 : Int32) ≤ (nI k)) => ?_) (fun q => absurd ((show (20 : Int32) ≤ nI k by rw [n20, nge (by omega) (by omega)]; omega)) q)
    refine R_iload z60_50 rfl ?_
    exact R_iret z60_51 (Or.inl (by decide +kernel)) ⟨Nat.zero_le _, Nat.zero_le _⟩ (by rw [show k = 20 by omega]; exact hQ)
  | succ d ih =>
    intro k hk 
    have hn16 := hW.2.1
    have hr300 := hW.2.2.2.1
    refine R_iload z60_5 rfl ?_
    refine R_bipush z60_7 (v := 20) (by decide) ?_
    refine R_icmp z60_9 (tn := 50) rfl (fun q => absurd q ((show ¬ (20 : Int32) ≤ nI k by rw [n20, nge (by omega) (by omega)]; omega))) (fun (h9 : ¬ (20 : Int32) ≤ (nI k)) => ?_)
    refine R_aload z60_12 rfl ?_
    refine R_iload z60_13 rfl ?_
    refine R_iload z60_15 rfl ?_
    refine R_cv z60_16 (k := 52) (by decide +kernel) rfl rfl (by decide +kernel) (Nat.le_of_ble_eq_true (by rfl)) rfl ⟨rfl, trivial⟩ ?_
    refine s52 hW (by omega) hc (jBk_ret rfl ⟨rfl, rfl⟩ ?_)
    refine R_aload z60_19 rfl ?_
    refine R_get z60_20 (k := 3) (f := 3) (by decide +kernel) rfl rfl ?_
    refine R_isub z60_23 ?_
    refine R_istore z60_24 (loc' := [some (.ref 0), some (.int (nI c)), some (.int days), some (.int (cFit A V c days k)), some (.int (nI k)), some (.int ((cLap A k c) - (V 0)))]) rfl rfl ?_
    refine R_iload z60_26 rfl ?_
    refine R_if z60_28 (tn := 44) rfl (fun (h28 : (((cLap A k c) - (V 0)) : Int32) ≤ 0) => ?_) (fun (h28 : ¬ (((cLap A k c) - (V 0)) : Int32) ≤ 0) => ?_)
    · refine R_iinc z60_44 (v := 1) (loc' := [some (.ref 0), some (.int (nI c)), some (.int days), some (.int (cFit A V c days k)), some (.int (nI (k + 1))), some (.int ((cLap A k c) - (V 0)))]) rfl rfl (by decide) (by rw [nI_1]; rfl) ?_
      refine R_goto z60_47 (tn := 5) rfl ?_
      have e : cFit A V c days (k + 1) = cFit A V c days k := by rw [cFit, if_neg (fun z => z.1 h28)]
      have G := ih (k + 1) (by omega)
      rw [e] at G
      exact GO_loc (loc' := [some (.ref 0), some (.int (nI c)), some (.int days), some (.int (cFit A V c days k)), some (.int (nI (k + 1))), none]) (fun j v hj => by
        match j, hj with
        | 0, hj => exact hj
        | 1, hj => exact hj
        | 2, hj => exact hj
        | 3, hj => exact hj
        | 4, hj => exact hj
        | 5, hj => cases hj
        | j + 6, hj => cases hj) G
    · refine R_iload z60_31 rfl ?_
      refine R_iload z60_33 rfl ?_
      refine R_icmp z60_34 (tn := 44) rfl (fun (h34 : (days : Int32) < ((cLap A k c) - (V 0))) => ?_) (fun (h34 : ¬ (days : Int32) < ((cLap A k c) - (V 0))) => ?_)
      · refine R_iinc z60_44 (v := 1) (loc' := [some (.ref 0), some (.int (nI c)), some (.int days), some (.int (cFit A V c days k)), some (.int (nI (k + 1))), some (.int ((cLap A k c) - (V 0)))]) rfl rfl (by decide) (by rw [nI_1]; rfl) ?_
        refine R_goto z60_47 (tn := 5) rfl ?_
        have e : cFit A V c days (k + 1) = cFit A V c days k := by rw [cFit, if_neg (fun z => z.2 h34)]
        have G := ih (k + 1) (by omega)
        rw [e] at G
        exact GO_loc (loc' := [some (.ref 0), some (.int (nI c)), some (.int days), some (.int (cFit A V c days k)), some (.int (nI (k + 1))), none]) (fun j v hj => by
          match j, hj with
          | 0, hj => exact hj
          | 1, hj => exact hj
          | 2, hj => exact hj
          | 3, hj => exact hj
          | 4, hj => exact hj
          | 5, hj => cases hj
          | j + 6, hj => cases hj) G
      · refine R_iload z60_37 rfl ?_
        refine R_iconst z60_38 (v := 1) (by decide) ?_
        refine R_iload z60_39 rfl ?_
        refine R_ishl z60_41 ?_
        refine R_ior z60_42 ?_
        refine R_istore z60_43 (loc' := [some (.ref 0), some (.int (nI c)), some (.int days), some (.int ((cFit A V c days k) ||| (1 <<< ((nI k) &&& 31)))), some (.int (nI k)), some (.int ((cLap A k c) - (V 0)))]) rfl rfl ?_
        refine R_iinc z60_44 (v := 1) (loc' := [some (.ref 0), some (.int (nI c)), some (.int days), some (.int ((cFit A V c days k) ||| (1 <<< ((nI k) &&& 31)))), some (.int (nI (k + 1))), some (.int ((cLap A k c) - (V 0)))]) rfl rfl (by decide) (by rw [nI_1]; rfl) ?_
        refine R_goto z60_47 (tn := 5) rfl ?_
        have e : cFit A V c days (k + 1) = cFit A V c days k ||| (1 : Int32) <<< (nI k &&& 31) := by rw [cFit, if_pos ⟨h28, h34⟩]
        have G := ih (k + 1) (by omega)
        rw [e] at G
        exact GO_loc (loc' := [some (.ref 0), some (.int (nI c)), some (.int days), some (.int (cFit A V c days k ||| (1 : Int32) <<< (nI k &&& 31))), some (.int (nI (k + 1))), none]) (fun j v hj => by
          match j, hj with
          | 0, hj => exact hj
          | 1, hj => exact hj
          | 2, hj => exact hj
          | 3, hj => exact hj
          | 4, hj => exact hj
          | 5, hj => cases hj
          | j + 6, hj => cases hj) G
theorem s60 {l : Launch} {E : jEnv} {A : Nat → Nat → Int32} {V : Nat → Int32} {O : Nat → Int64} {Q : jO → List jC → Prop} {c n r : Nat} {days : Int32} (hW : cWf A V n r) (hc : c < 16) (hQ : Q (.inl (some (.int (cFit A V c days 20)))) (hp A V O)) : GO l E 60 0 [some (.ref 0), some (.int (nI c)), some (.int days), none, none, none] [] (hp A V O) 0 0 Q := by
  refine R_iconst z60_0 (v := 0) (by decide) ?_
  refine R_istore z60_1 (loc' := [some (.ref 0), some (.int (nI c)), some (.int days), some (.int 0), none, none]) rfl rfl ?_
  refine R_iconst z60_2 (v := 0) (by decide) ?_
  refine R_istore z60_3 (loc' := [some (.ref 0), some (.int (nI c)), some (.int days), some (.int 0), some (.int 0), none]) rfl rfl ?_
  exact s60_lp hW hc hQ 20 0 (by omega)
def cSeat (x : Int64) (k : Nat) : Int32 := ((x.toUInt64 >>> ((4 * nI k).toInt64.toUInt64 &&& Int64.toUInt64 63)).toInt64 &&& 15).toInt32
theorem s50 {l : Launch} {E : jEnv} {A : Nat → Nat → Int32} {V : Nat → Int32} {O : Nat → Int64} {Q : jO → List jC → Prop} {x : Int64} {k : Nat} (hQ : Q (.inl (some (.int (cSeat x k)))) (hp A V O)) : GO l E 50 0 [some (.long x), none, some (.int (nI k))] [] (hp A V O) 0 0 Q := by
  refine R_lload z50_0 rfl ?_
  refine R_iconst z50_1 (v := 4) (by decide) ?_
  refine R_iload z50_2 rfl ?_
  refine R_imul z50_3 ?_
  refine R_lushr z50_4 ?_
  refine R_ldc2 z50_5 (v := 15) (by decide +kernel) ?_
  refine R_land z50_8 ?_
  refine R_l2i z50_9 ?_
  exact R_iret z50_10 (Or.inl (by decide +kernel)) ⟨Nat.zero_le _, Nat.zero_le _⟩ (hQ)
end
section
/-- the model's numbers are in range -/
def mWf (A : Nat → Nat → Int32) (V : Nat → Int32) (n r : Nat) : Prop := V 9 = nI n ∧ n ≤ 16 ∧ V 10 = nI r ∧ r ≤ 300 ∧ ∀ k, k < r → (∃ o, o < 16 ∧ A 33 k = nI o) ∧ ∃ u, u ≤ 50 ∧ A 36 k = nI u
theorem s62 {l : Launch} {E : jEnv} {A : Nat → Nat → Int32} {V : Nat → Int32} {O : Nat → Int64} {Q : jO → List jC → Prop} (hQ : Q (.inl (some (.int (V 6)))) (hp A V O)) : GO l E 62 0 [some (.ref 25)] [] (hp A V O) 0 0 Q := by
  refine R_aload z62_0 rfl ?_
  refine R_get z62_1 (k := 4) (f := 0) (by decide +kernel) rfl rfl ?_
  exact R_iret z62_4 (Or.inl (by decide +kernel)) ⟨Nat.zero_le _, Nat.zero_le _⟩ (hQ)
/-- the kind of a refusal: 0 none -/
def mThr (a b c d : Int32) : Nat := if ¬ a = 0 then 1 else if ¬ b = 0 then 2 else if ¬ c = 0 then 3 else if ¬ d = 0 then 4 else 0
theorem s63 {l : Launch} {E : jEnv} {A : Nat → Nat → Int32} {V : Nat → Int32} {O : Nat → Int64} {Q : jO → List jC → Prop} {a b c d : Int32} (h0 : mThr a b c d = 0 → Q (.inl (some (.int 0))) (hp A (va_up V 6 0) O)) (h1 : ¬ mThr a b c d = 0 → Q (.inl (some (.int 1))) (hp A (va_up V 6 (nI (mThr a b c d))) O)) : GO l E 63 0 [some (.ref 25), some (.int a), some (.int b), some (.int c), some (.int d)] [] (hp A V O) 0 0 Q := by
  refine R_aload z63_0 rfl ?_
  refine R_iload z63_1 rfl ?_
  refine R_if z63_2 (tn := 9) rfl (fun (h2 : (a : Int32) = 0) => ?_) (fun (h2 : ¬ (a : Int32) = 0) => ?_)
  · refine R_iload z63_9 rfl ?_
    refine R_if z63_10 (tn := 17) rfl (fun (h10 : (b : Int32) = 0) => ?_) (fun (h10 : ¬ (b : Int32) = 0) => ?_)
    · refine R_iload z63_17 rfl ?_
      refine R_if z63_18 (tn := 25) rfl (fun (h18 : (c : Int32) = 0) => ?_) (fun (h18 : ¬ (c : Int32) = 0) => ?_)
      · refine R_iload z63_25 rfl ?_
        refine R_if z63_27 (tn := 34) rfl (fun (h27 : (d : Int32) = 0) => ?_) (fun (h27 : ¬ (d : Int32) = 0) => ?_)
        · refine R_iconst z63_34 (v := 0) (by decide) ?_
          refine R_puti z63_35 (k := 4) (f := 0) (h' := hp A (va_up V 6 0) O) (by decide +kernel) (by decide +kernel) rfl (Nat.le_of_ble_eq_true rfl) rfl ?_
          refine R_aload z63_38 rfl ?_
          refine R_get z63_39 (k := 4) (f := 0) (by decide +kernel) rfl rfl ?_
          refine R_top (y := 0) (rfl) ?_
          refine R_if z63_42 (tn := 49) rfl (fun _ => ?_) (fun q => absurd (show (0 : Int32) ≤ 0 by decide) q)
          refine R_iconst z63_49 (v := 0) (by decide) ?_
          exact R_iret z63_50 (Or.inr (by decide)) ⟨Nat.zero_le _, Nat.zero_le _⟩ (h0 ((if_neg (fun z => z h2)).trans ((if_neg (fun z => z h10)).trans ((if_neg (fun z => z h18)).trans (if_neg (fun z => z h27))))))
        · refine R_iconst z63_30 (v := 4) (by decide) ?_
          refine R_goto z63_31 (tn := 35) rfl ?_
          refine R_puti z63_35 (k := 4) (f := 0) (h' := hp A (va_up V 6 4) O) (by decide +kernel) (by decide +kernel) rfl (Nat.le_of_ble_eq_true rfl) rfl ?_
          refine R_aload z63_38 rfl ?_
          refine R_get z63_39 (k := 4) (f := 0) (by decide +kernel) rfl rfl ?_
          refine R_top (y := 4) (rfl) ?_
          refine R_if z63_42 (tn := 49) rfl (fun q => absurd (show (4 : Int32) ≤ 0 from q) (by decide)) (fun _ => ?_)
          refine R_iconst z63_45 (v := 1) (by decide) ?_
          refine R_goto z63_46 (tn := 50) rfl ?_
          exact R_iret z63_50 (Or.inr (by decide)) ⟨Nat.zero_le _, Nat.zero_le _⟩ (by have e : mThr a b c d = 4 := (if_neg (fun z => z h2)).trans ((if_neg (fun z => z h10)).trans ((if_neg (fun z => z h18)).trans (if_pos h27))); have G := h1 (by rw [e]; decide); rw [e] at G; exact G)
      · refine R_iconst z63_21 (v := 3) (by decide) ?_
        refine R_goto z63_22 (tn := 35) rfl ?_
        refine R_puti z63_35 (k := 4) (f := 0) (h' := hp A (va_up V 6 3) O) (by decide +kernel) (by decide +kernel) rfl (Nat.le_of_ble_eq_true rfl) rfl ?_
        refine R_aload z63_38 rfl ?_
        refine R_get z63_39 (k := 4) (f := 0) (by decide +kernel) rfl rfl ?_
        refine R_top (y := 3) (rfl) ?_
        refine R_if z63_42 (tn := 49) rfl (fun q => absurd (show (3 : Int32) ≤ 0 from q) (by decide)) (fun _ => ?_)
        refine R_iconst z63_45 (v := 1) (by decide) ?_
        refine R_goto z63_46 (tn := 50) rfl ?_
        exact R_iret z63_50 (Or.inr (by decide)) ⟨Nat.zero_le _, Nat.zero_le _⟩ (by have e : mThr a b c d = 3 := (if_neg (fun z => z h2)).trans ((if_neg (fun z => z h10)).trans (if_pos h18)); have G := h1 (by rw [e]; decide); rw [e] at G; exact G)
    · refine R_iconst z63_13 (v := 2) (by decide) ?_
      refine R_goto z63_14 (tn := 35) rfl ?_
      refine R_puti z63_35 (k := 4) (f := 0) (h' := hp A (va_up V 6 2) O) (by decide +kernel) (by decide +kernel) rfl (Nat.le_of_ble_eq_true rfl) rfl ?_
      refine R_aload z63_38 rfl ?_
      refine R_get z63_39 (k := 4) (f := 0) (by decide +kernel) rfl rfl ?_
      refine R_top (y := 2) (rfl) ?_
      refine R_if z63_42 (tn := 49) rfl (fun q => absurd (show (2 : Int32) ≤ 0 from q) (by decide)) (fun _ => ?_)
      refine R_iconst z63_45 (v := 1) (by decide) ?_
      refine R_goto z63_46 (tn := 50) rfl ?_
      exact R_iret z63_50 (Or.inr (by decide)) ⟨Nat.zero_le _, Nat.zero_le _⟩ (by have e : mThr a b c d = 2 := (if_neg (fun z => z h2)).trans (if_pos h10); have G := h1 (by rw [e]; decide); rw [e] at G; exact G)
  · refine R_iconst z63_5 (v := 1) (by decide) ?_
    refine R_goto z63_6 (tn := 35) rfl ?_
    refine R_puti z63_35 (k := 4) (f := 0) (h' := hp A (va_up V 6 1) O) (by decide +kernel) (by decide +kernel) rfl (Nat.le_of_ble_eq_true rfl) rfl ?_
    refine R_aload z63_38 rfl ?_
    refine R_get z63_39 (k := 4) (f := 0) (by decide +kernel) rfl rfl ?_
    refine R_top (y := 1) (rfl) ?_
    refine R_if z63_42 (tn := 49) rfl (fun q => absurd (show (1 : Int32) ≤ 0 from q) (by decide)) (fun _ => ?_)
    refine R_iconst z63_45 (v := 1) (by decide) ?_
    refine R_goto z63_46 (tn := 50) rfl ?_
    exact R_iret z63_50 (Or.inr (by decide)) ⟨Nat.zero_le _, Nat.zero_le _⟩ (by have e : mThr a b c d = 1 := if_pos h2; have G := h1 (by rw [e]; decide); rw [e] at G; exact G)
theorem s64 {l : Launch} {E : jEnv} {A : Nat → Nat → Int32} {V : Nat → Int32} {O : Nat → Int64} {Q : jO → List jC → Prop} {v a b : Int32} (h1 : jrg v a b → Q (.inl (some (.int 1))) (hp A V O)) (h0 : ¬ jrg v a b → Q (.inl (some (.int 0))) (hp A V O)) : GO l E 64 0 [some (.int v), some (.int a), some (.int b)] [] (hp A V O) 0 0 Q := by
  refine R_iload z64_0 rfl ?_
  refine R_iload z64_1 rfl ?_
  refine R_icmp z64_2 (tn := 14) rfl (fun (h2 : (v : Int32) < a) => ?_) (fun (h2 : ¬ (v : Int32) < a) => ?_)
  · refine R_iconst z64_14 (v := 0) (by decide) ?_
    exact R_iret z64_15 (Or.inr (by decide)) ⟨Nat.zero_le _, Nat.zero_le _⟩ (h0 (fun z => z.1 h2))
  · refine R_iload z64_5 rfl ?_
    refine R_iload z64_6 rfl ?_
    refine R_icmp z64_7 (tn := 14) rfl (fun (h7 : (b : Int32) < v) => ?_) (fun (h7 : ¬ (b : Int32) < v) => ?_)
    · refine R_iconst z64_14 (v := 0) (by decide) ?_
      exact R_iret z64_15 (Or.inr (by decide)) ⟨Nat.zero_le _, Nat.zero_le _⟩ (h0 (fun z => absurd z.2 (Int32.not_le.mpr h7)))
    · refine R_iconst z64_10 (v := 1) (by decide) ?_
      refine R_goto z64_11 (tn := 15) rfl ?_
      exact R_iret z64_15 (Or.inr (by decide)) ⟨Nat.zero_le _, Nat.zero_le _⟩ (h1 ⟨h2, Int32.not_lt.mp h7⟩)
theorem jrg_n {c : Int32} {n : Nat} (hn : n < 20000) : jrg c 0 (nI n - 1) ↔ ¬ c < 0 ∧ c < nI n := by
  have e : (nI n - 1).toInt = (n : Int) - 1 := pk_sub_toInt (b := 1) (by omega) (by omega)
  have e2 : (nI n).toInt = n := nI_toInt (by omega)
  constructor
  · rintro ⟨a, b⟩
    refine ⟨a, Int32.lt_iff_toInt_lt.mpr ?_⟩
    have := Int32.le_iff_toInt_le.mp b
    omega
  · rintro ⟨a, b⟩
    refine ⟨a, Int32.le_iff_toInt_le.mpr ?_⟩
    have := Int32.lt_iff_toInt_lt.mp b
    omega
theorem jrg_20 {p : Int32} : jrg p 0 19 ↔ ¬ p < 0 ∧ p < 20 := jrg_n (n := 20) (by decide)
theorem s65 {l : Launch} {E : jEnv} {A : Nat → Nat → Int32} {V : Nat → Int32} {O : Nat → Int64} {Q : jO → List jC → Prop} {c : Int32} {n : Nat} (hV : V 9 = nI n) (hn : n ≤ 16) (h1 : ∀ c2, c = nI c2 → c2 < n → Q (.inl (some (.int 1))) (hp A V O)) (h0 : (c < 0 ∨ ¬ c < nI n) → Q (.inl (some (.int 0))) (hp A V O)) : GO l E 65 0 [some (.ref 25), some (.int c)] [] (hp A V O) 0 0 Q := by
  refine R_iload z65_0 rfl ?_
  refine R_iconst z65_1 (v := 0) (by decide) ?_
  refine R_aload z65_2 rfl ?_
  refine R_get z65_3 (k := 4) (f := 3) (by decide +kernel) rfl rfl ?_
  refine R_iconst z65_6 (v := 1) (by decide) ?_
  refine R_top (y := 1) (rfl) ?_
  refine R_isub z65_7 ?_
  refine R_cs z65_8 (k := 64) (kind := 1) (by decide +kernel) (by decide) rfl rfl (by decide +kernel) (Nat.le_of_ble_eq_true (by rfl)) rfl ?_
  refine s64 (fun g => jBk_ret rfl ⟨rfl, rfl⟩ ?_) (fun g => jBk_ret rfl ⟨rfl, rfl⟩ ?_)
  · exact R_iret z65_11 (Or.inr (by decide)) ⟨Nat.zero_le _, Nat.zero_le _⟩ (by rw [hV, jrg_n (by omega)] at g; obtain ⟨c2, hc2, e⟩ := jnat g.1 g.2 (by omega); exact h1 c2 e hc2)
  · refine R_iret z65_11 (Or.inr (by decide)) ⟨Nat.zero_le _, Nat.zero_le _⟩ (h0 ?_)
    rw [hV, jrg_n (by omega)] at g
    rcases Classical.em (c < 0) with q | q
    · exact Or.inl q
    · exact Or.inr (fun z => g ⟨q, z⟩)
theorem s66 {l : Launch} {E : jEnv} {A : Nat → Nat → Int32} {V : Nat → Int32} {O : Nat → Int64} {Q : jO → List jC → Prop} {p c : Int32} {n : Nat} (hV : V 9 = nI n) (hn : n ≤ 16) (h1 : ∀ p2 c2, p = nI p2 → c = nI c2 → p2 < 20 → c2 < n → Q (.inl (some (.int 1))) (hp A V O)) (h0 : (p < 0 ∨ ¬ p < 20 ∨ c < 0 ∨ ¬ c < nI n) → Q (.inl (some (.int 0))) (hp A V O)) : GO l E 66 0 [some (.ref 25), some (.int p), some (.int c)] [] (hp A V O) 0 0 Q := by
  refine R_iload z66_0 rfl ?_
  refine R_iconst z66_1 (v := 0) (by decide) ?_
  refine R_bipush z66_2 (v := 19) (by decide) ?_
  refine R_cs z66_4 (k := 64) (kind := 1) (by decide +kernel) (by decide) rfl rfl (by decide +kernel) (Nat.le_of_ble_eq_true (by rfl)) rfl ?_
  refine s64 (fun g => jBk_ret rfl ⟨rfl, rfl⟩ ?_) (fun g => jBk_ret rfl ⟨rfl, rfl⟩ ?_)
  · refine R_if z66_7 (tn := 22) rfl (fun q => absurd (show (1 : Int32) = 0 from q) (by decide)) (fun _ => ?_)
    refine R_aload z66_10 rfl ?_
    refine R_iload z66_11 rfl ?_
    refine R_cv z66_12 (k := 65) (by decide +kernel) rfl rfl (by decide +kernel) (Nat.le_of_ble_eq_true (by rfl)) rfl ⟨rfl, trivial⟩ ?_
    refine s65 hV hn (fun c2 e2 l2 => jBk_ret rfl ⟨rfl, rfl⟩ ?_) (fun g3 => jBk_ret rfl ⟨rfl, rfl⟩ ?_)
    · refine R_if z66_15 (tn := 22) rfl (fun q => absurd (show (1 : Int32) = 0 from q) (by decide)) (fun _ => ?_)
      refine R_iconst z66_18 (v := 1) (by decide) ?_
      refine R_goto z66_19 (tn := 23) rfl ?_
      exact R_iret z66_23 (Or.inr (by decide)) ⟨Nat.zero_le _, Nat.zero_le _⟩ (by rw [jrg_20] at g; obtain ⟨p2, hp2, e⟩ := jnat g.1 g.2 (by decide); exact h1 p2 c2 e e2 hp2 l2)
    · refine R_if z66_15 (tn := 22) rfl (fun _ => ?_) (fun q => absurd rfl q)
      refine R_iconst z66_22 (v := 0) (by decide) ?_
      exact R_iret z66_23 (Or.inr (by decide)) ⟨Nat.zero_le _, Nat.zero_le _⟩ (h0 (Or.inr (Or.inr g3)))
  · refine R_if z66_7 (tn := 22) rfl (fun _ => ?_) (fun q => absurd rfl q)
    refine R_iconst z66_22 (v := 0) (by decide) ?_
    refine R_iret z66_23 (Or.inr (by decide)) ⟨Nat.zero_le _, Nat.zero_le _⟩ (h0 ?_)
    rw [jrg_20] at g
    rcases Classical.em (p < 0) with q | q
    · exact Or.inl q
    · exact Or.inr (Or.inl (fun z => g ⟨q, z⟩))
/-- the latest pass of a person and a course among the first k results, up to a day -/
def mPass (A : Nat → Nat → Int32) (p c d : Int32) : Nat → Int32
  | 0 => -1
  | k + 1 => if A 32 k = p ∧ A 33 k = c ∧ ¬ A 35 k = 0 ∧ A 34 k ≤ d then nI k else mPass A p c d k
theorem mPass_pass (A : Nat → Nat → Int32) (p c d : Int32) : ∀ k, jpass (mPass A p c d k) k
  | 0 => Or.inl rfl
  | k + 1 => by
    unfold mPass
    split
    · exact Or.inr ⟨k, by omega, rfl⟩
    · rcases mPass_pass A p c d k with e | ⟨j, hj, e⟩
      · exact Or.inl e
      · exact Or.inr ⟨j, by omega, e⟩
def mFails (A : Nat → Nat → Int32) (p c : Int32) : Nat → Nat
  | 0 => 0
  | k + 1 => if A 32 k = p ∧ A 33 k = c then (if A 35 k = 0 then mFails A p c k + 1 else 0) else mFails A p c k
def mLate (A : Nat → Nat → Int32) (p c : Int32) : Nat → Int32
  | 0 => -1
  | k + 1 => if A 32 k = p ∧ A 33 k = c then nI k else mLate A p c k
def mOff (A : Nat → Nat → Int32) (r : Nat) (d : Int32) : Nat → Nat
  | 0 => 0
  | k + 1 => mOff A r d k + (if A 37 (50 * r + k) ≤ d then 1 else 0)
theorem s73_lp {l : Launch} {E : jEnv} {A : Nat → Nat → Int32} {V : Nat → Int32} {O : Nat → Int64} {Q : jO → List jC → Prop} {p c d : Int32} {n r : Nat} (hW : mWf A V n r) (hQ : Q (.inl (some (.int (mPass A p c d r)))) (hp A V O)) : ∀ (dd k : Nat), k + dd = r →  GO l E 73 6 [some (.ref 25), some (.int p), some (.int c), some (.int d), some (.int (mPass A p c d k)), some (.int (nI k))] [] (hp A V O) 0 0 Q := by
  intro dd
  induction dd with
  | zero =>
    intro k hk 
    have hn16 := hW.2.1
    have hr300 := hW.2.2.2.1
    refine R_iload z73_6 rfl ?_
    refine R_aload z73_8 rfl ?_
    refine R_get z73_9 (k := 4) (f := 10) (by decide +kernel) rfl rfl ?_
    refine R_icmp z73_12 (tn := 73) rfl (fun (h12 : ((V 10) : Int32) ≤ (nI k)) => ?_) (fun q => absurd ((show V 10 ≤ nI k by rw [hW.2.2.1, nge (by omega) (by omega)]; omega)) q)
    refine R_iload z73_73 rfl ?_
    exact R_iret z73_75 (Or.inl (by decide +kernel)) ⟨Nat.zero_le _, Nat.zero_le _⟩ (by rw [show k = r by omega]; exact hQ)
  | succ dd ih =>
    intro k hk 
    have hn16 := hW.2.1
    have hr300 := hW.2.2.2.1
    refine R_iload z73_6 rfl ?_
    refine R_aload z73_8 rfl ?_
    refine R_get z73_9 (k := 4) (f := 10) (by decide +kernel) rfl rfl ?_
    refine R_icmp z73_12 (tn := 73) rfl (fun q => absurd q ((show ¬ V 10 ≤ nI k by rw [hW.2.2.1, nge (by omega) (by omega)]; omega))) (fun (h12 : ¬ ((V 10) : Int32) ≤ (nI k)) => ?_)
    refine R_aload z73_15 rfl ?_
    refine R_get z73_16 (k := 4) (f := 11) (by decide +kernel) rfl rfl ?_
    refine R_iload z73_19 rfl ?_
    refine R_ild z73_21 (n := 300) (f := A 32) (v := (A 32 k)) rfl (nin (by omega) (by decide)) (by rw [ncl (by omega)]) ?_
    refine R_iload z73_22 rfl ?_
    refine R_icmp z73_23 (tn := 63) rfl (fun (h23 : ¬ ((A 32 k) : Int32) = p) => ?_) (fun (h23 : ¬ (¬ ((A 32 k) : Int32) = p)) => ?_)
    · refine R_iload z73_63 rfl ?_
      refine R_istore z73_65 (loc' := [some (.ref 25), some (.int p), some (.int c), some (.int d), some (.int (mPass A p c d k)), some (.int (nI k))]) rfl rfl ?_
      refine R_iinc z73_67 (v := 1) (loc' := [some (.ref 25), some (.int p), some (.int c), some (.int d), some (.int (mPass A p c d k)), some (.int (nI (k + 1)))]) rfl rfl (by decide) (by rw [nI_1]; rfl) ?_
      refine R_goto z73_70 (tn := 6) rfl ?_
      have e9 : mPass A p c d (k + 1) = mPass A p c d k := by rw [mPass, if_neg (fun z => h23 z.1)]
      have G := ih (k + 1) (by omega)
      rw [e9] at G
      exact G
    · refine R_aload z73_26 rfl ?_
      refine R_get z73_27 (k := 4) (f := 12) (by decide +kernel) rfl rfl ?_
      refine R_iload z73_30 rfl ?_
      refine R_ild z73_32 (n := 300) (f := A 33) (v := (A 33 k)) rfl (nin (by omega) (by decide)) (by rw [ncl (by omega)]) ?_
      refine R_iload z73_33 rfl ?_
      refine R_icmp z73_34 (tn := 63) rfl (fun (h34 : ¬ ((A 33 k) : Int32) = c) => ?_) (fun (h34 : ¬ (¬ ((A 33 k) : Int32) = c)) => ?_)
      · refine R_iload z73_63 rfl ?_
        refine R_istore z73_65 (loc' := [some (.ref 25), some (.int p), some (.int c), some (.int d), some (.int (mPass A p c d k)), some (.int (nI k))]) rfl rfl ?_
        refine R_iinc z73_67 (v := 1) (loc' := [some (.ref 25), some (.int p), some (.int c), some (.int d), some (.int (mPass A p c d k)), some (.int (nI (k + 1)))]) rfl rfl (by decide) (by rw [nI_1]; rfl) ?_
        refine R_goto z73_70 (tn := 6) rfl ?_
        have e9 : mPass A p c d (k + 1) = mPass A p c d k := by rw [mPass, if_neg (fun z => h34 z.2.1)]
        have G := ih (k + 1) (by omega)
        rw [e9] at G
        exact G
      · refine R_aload z73_37 rfl ?_
        refine R_get z73_38 (k := 4) (f := 14) (by decide +kernel) rfl rfl ?_
        refine R_iload z73_41 rfl ?_
        refine R_zld z73_43 (n := 300) (f := A 35) (v := (A 35 k)) rfl (nin (by omega) (by decide)) (by rw [ncl (by omega)]) ?_
        refine R_if z73_44 (tn := 63) rfl (fun (h44 : ((A 35 k) : Int32) = 0) => ?_) (fun (h44 : ¬ ((A 35 k) : Int32) = 0) => ?_)
        · refine R_iload z73_63 rfl ?_
          refine R_istore z73_65 (loc' := [some (.ref 25), some (.int p), some (.int c), some (.int d), some (.int (mPass A p c d k)), some (.int (nI k))]) rfl rfl ?_
          refine R_iinc z73_67 (v := 1) (loc' := [some (.ref 25), some (.int p), some (.int c), some (.int d), some (.int (mPass A p c d k)), some (.int (nI (k + 1)))]) rfl rfl (by decide) (by rw [nI_1]; rfl) ?_
          refine R_goto z73_70 (tn := 6) rfl ?_
          have e9 : mPass A p c d (k + 1) = mPass A p c d k := by rw [mPass, if_neg (fun z => z.2.2.1 h44)]
          have G := ih (k + 1) (by omega)
          rw [e9] at G
          exact G
        · refine R_aload z73_47 rfl ?_
          refine R_get z73_48 (k := 4) (f := 13) (by decide +kernel) rfl rfl ?_
          refine R_iload z73_51 rfl ?_
          refine R_ild z73_53 (n := 300) (f := A 34) (v := (A 34 k)) rfl (nin (by omega) (by decide)) (by rw [ncl (by omega)]) ?_
          refine R_iload z73_54 rfl ?_
          refine R_icmp z73_55 (tn := 63) rfl (fun (h55 : (d : Int32) < (A 34 k)) => ?_) (fun (h55 : ¬ (d : Int32) < (A 34 k)) => ?_)
          · refine R_iload z73_63 rfl ?_
            refine R_istore z73_65 (loc' := [some (.ref 25), some (.int p), some (.int c), some (.int d), some (.int (mPass A p c d k)), some (.int (nI k))]) rfl rfl ?_
            refine R_iinc z73_67 (v := 1) (loc' := [some (.ref 25), some (.int p), some (.int c), some (.int d), some (.int (mPass A p c d k)), some (.int (nI (k + 1)))]) rfl rfl (by decide) (by rw [nI_1]; rfl) ?_
            refine R_goto z73_70 (tn := 6) rfl ?_
            have e9 : mPass A p c d (k + 1) = mPass A p c d k := by rw [mPass, if_neg (fun z => absurd z.2.2.2 (Int32.not_le.mpr h55))]
            have G := ih (k + 1) (by omega)
            rw [e9] at G
            exact G
          · refine R_iload z73_58 rfl ?_
            refine R_goto z73_60 (tn := 65) rfl ?_
            refine R_istore z73_65 (loc' := [some (.ref 25), some (.int p), some (.int c), some (.int d), some (.int (nI k)), some (.int (nI k))]) rfl rfl ?_
            refine R_iinc z73_67 (v := 1) (loc' := [some (.ref 25), some (.int p), some (.int c), some (.int d), some (.int (nI k)), some (.int (nI (k + 1)))]) rfl rfl (by decide) (by rw [nI_1]; rfl) ?_
            refine R_goto z73_70 (tn := 6) rfl ?_
            have e9 : mPass A p c d (k + 1) = nI k := by rw [mPass, if_pos ⟨Classical.not_not.mp h23, Classical.not_not.mp h34, h44, Int32.not_lt.mp h55⟩]
            have G := ih (k + 1) (by omega)
            rw [e9] at G
            exact G
theorem s73 {l : Launch} {E : jEnv} {A : Nat → Nat → Int32} {V : Nat → Int32} {O : Nat → Int64} {Q : jO → List jC → Prop} {p c d : Int32} {n r : Nat} (hW : mWf A V n r) (hQ : Q (.inl (some (.int (mPass A p c d r)))) (hp A V O)) : GO l E 73 0 [some (.ref 25), some (.int p), some (.int c), some (.int d), none, none] [] (hp A V O) 0 0 Q := by
  refine R_iconst z73_0 (v := (-1)) (by decide) ?_
  refine R_istore z73_1 (loc' := [some (.ref 25), some (.int p), some (.int c), some (.int d), some (.int (-1)), none]) rfl rfl ?_
  refine R_iconst z73_3 (v := 0) (by decide) ?_
  refine R_istore z73_4 (loc' := [some (.ref 25), some (.int p), some (.int c), some (.int d), some (.int (-1)), some (.int 0)]) rfl rfl ?_
  exact s73_lp hW hQ r 0 (by omega)
theorem s76_lp {l : Launch} {E : jEnv} {A : Nat → Nat → Int32} {V : Nat → Int32} {O : Nat → Int64} {Q : jO → List jC → Prop} {p c : Int32} {n r : Nat} (hW : mWf A V n r) (hQ : Q (.inl (some (.int (nI (mFails A p c r))))) (hp A V O)) : ∀ (d k : Nat), k + d = r →  GO l E 76 5 [some (.ref 25), some (.int p), some (.int c), some (.int (nI (mFails A p c k))), some (.int (nI k))] [] (hp A V O) 0 0 Q := by
  intro d
  induction d with
  | zero =>
    intro k hk 
    have hn16 := hW.2.1
    have hr300 := hW.2.2.2.1
    refine R_iload z76_5 rfl ?_
    refine R_aload z76_7 rfl ?_
    refine R_get z76_8 (k := 4) (f := 10) (by decide +kernel) rfl rfl ?_
    refine R_icmp z76_11 (tn := 60) rfl (fun (h11 : ((V 10) : Int32) ≤ (nI k)) => ?_) (fun q => absurd ((show V 10 ≤ nI k by rw [hW.2.2.1, nge (by omega) (by omega)]; omega)) q)
    refine R_iload z76_60 rfl ?_
    exact R_iret z76_61 (Or.inl (by decide +kernel)) ⟨Nat.zero_le _, Nat.zero_le _⟩ (by rw [show k = r by omega]; exact hQ)
  | succ d ih =>
    intro k hk 
    have hn16 := hW.2.1
    have hr300 := hW.2.2.2.1
    refine R_iload z76_5 rfl ?_
    refine R_aload z76_7 rfl ?_
    refine R_get z76_8 (k := 4) (f := 10) (by decide +kernel) rfl rfl ?_
    refine R_icmp z76_11 (tn := 60) rfl (fun q => absurd q ((show ¬ V 10 ≤ nI k by rw [hW.2.2.1, nge (by omega) (by omega)]; omega))) (fun (h11 : ¬ ((V 10) : Int32) ≤ (nI k)) => ?_)
    refine R_aload z76_14 rfl ?_
    refine R_get z76_15 (k := 4) (f := 11) (by decide +kernel) rfl rfl ?_
    refine R_iload z76_18 rfl ?_
    refine R_ild z76_20 (n := 300) (f := A 32) (v := (A 32 k)) rfl (nin (by omega) (by decide)) (by rw [ncl (by omega)]) ?_
    refine R_iload z76_21 rfl ?_
    refine R_icmp z76_22 (tn := 54) rfl (fun (h22 : ¬ ((A 32 k) : Int32) = p) => ?_) (fun (h22 : ¬ (¬ ((A 32 k) : Int32) = p)) => ?_)
    · refine R_iinc z76_54 (v := 1) (loc' := [some (.ref 25), some (.int p), some (.int c), some (.int (nI (mFails A p c k))), some (.int (nI (k + 1)))]) rfl rfl (by decide) (by rw [nI_1]; rfl) ?_
      refine R_goto z76_57 (tn := 5) rfl ?_
      have e9 : mFails A p c (k + 1) = mFails A p c k := by rw [mFails, if_neg (fun z => h22 z.1)]
      have G := ih (k + 1) (by omega)
      rw [e9] at G
      exact G
    · refine R_aload z76_25 rfl ?_
      refine R_get z76_26 (k := 4) (f := 12) (by decide +kernel) rfl rfl ?_
      refine R_iload z76_29 rfl ?_
      refine R_ild z76_31 (n := 300) (f := A 33) (v := (A 33 k)) rfl (nin (by omega) (by decide)) (by rw [ncl (by omega)]) ?_
      refine R_iload z76_32 rfl ?_
      refine R_icmp z76_33 (tn := 54) rfl (fun (h33 : ¬ ((A 33 k) : Int32) = c) => ?_) (fun (h33 : ¬ (¬ ((A 33 k) : Int32) = c)) => ?_)
      · refine R_iinc z76_54 (v := 1) (loc' := [some (.ref 25), some (.int p), some (.int c), some (.int (nI (mFails A p c k))), some (.int (nI (k + 1)))]) rfl rfl (by decide) (by rw [nI_1]; rfl) ?_
        refine R_goto z76_57 (tn := 5) rfl ?_
        have e9 : mFails A p c (k + 1) = mFails A p c k := by rw [mFails, if_neg (fun z => h33 z.2)]
        have G := ih (k + 1) (by omega)
        rw [e9] at G
        exact G
      · refine R_aload z76_36 rfl ?_
        refine R_get z76_37 (k := 4) (f := 14) (by decide +kernel) rfl rfl ?_
        refine R_iload z76_40 rfl ?_
        refine R_zld z76_42 (n := 300) (f := A 35) (v := (A 35 k)) rfl (nin (by omega) (by decide)) (by rw [ncl (by omega)]) ?_
        refine R_if z76_43 (tn := 50) rfl (fun (h43 : ((A 35 k) : Int32) = 0) => ?_) (fun (h43 : ¬ ((A 35 k) : Int32) = 0) => ?_)
        · refine R_iload z76_50 rfl ?_
          refine R_iconst z76_51 (v := 1) (by decide) ?_
          refine R_iadd z76_52 ?_
          refine R_top (y := nI (mFails A p c k + 1)) (nI_1 _) ?_
          refine R_istore z76_53 (loc' := [some (.ref 25), some (.int p), some (.int c), some (.int (nI (mFails A p c k + 1))), some (.int (nI k))]) rfl rfl ?_
          refine R_iinc z76_54 (v := 1) (loc' := [some (.ref 25), some (.int p), some (.int c), some (.int (nI (mFails A p c k + 1))), some (.int (nI (k + 1)))]) rfl rfl (by decide) (by rw [nI_1]; rfl) ?_
          refine R_goto z76_57 (tn := 5) rfl ?_
          have e9 : mFails A p c (k + 1) = mFails A p c k + 1 := by rw [mFails, if_pos ⟨Classical.not_not.mp h22, Classical.not_not.mp h33⟩, if_pos h43]
          have G := ih (k + 1) (by omega)
          rw [e9] at G
          exact G
        · refine R_iconst z76_46 (v := 0) (by decide) ?_
          refine R_goto z76_47 (tn := 53) rfl ?_
          refine R_top (y := (nI 0)) (rfl) ?_
          refine R_istore z76_53 (loc' := [some (.ref 25), some (.int p), some (.int c), some (.int (nI 0)), some (.int (nI k))]) rfl rfl ?_
          refine R_iinc z76_54 (v := 1) (loc' := [some (.ref 25), some (.int p), some (.int c), some (.int (nI 0)), some (.int (nI (k + 1)))]) rfl rfl (by decide) (by rw [nI_1]; rfl) ?_
          refine R_goto z76_57 (tn := 5) rfl ?_
          have e9 : mFails A p c (k + 1) = 0 := by rw [mFails, if_pos ⟨Classical.not_not.mp h22, Classical.not_not.mp h33⟩, if_neg h43]
          have G := ih (k + 1) (by omega)
          rw [e9] at G
          exact G
theorem s76 {l : Launch} {E : jEnv} {A : Nat → Nat → Int32} {V : Nat → Int32} {O : Nat → Int64} {Q : jO → List jC → Prop} {p c : Int32} {n r : Nat} (hW : mWf A V n r) (hQ : Q (.inl (some (.int (nI (mFails A p c r))))) (hp A V O)) : GO l E 76 0 [some (.ref 25), some (.int p), some (.int c), none, none] [] (hp A V O) 0 0 Q := by
  refine R_iconst z76_0 (v := 0) (by decide) ?_
  refine R_istore z76_1 (loc' := [some (.ref 25), some (.int p), some (.int c), some (.int 0), none]) rfl rfl ?_
  refine R_iconst z76_2 (v := 0) (by decide) ?_
  refine R_istore z76_3 (loc' := [some (.ref 25), some (.int p), some (.int c), some (.int 0), some (.int 0)]) rfl rfl ?_
  exact s76_lp hW hQ r 0 (by omega)
theorem s77_lp {l : Launch} {E : jEnv} {A : Nat → Nat → Int32} {V : Nat → Int32} {O : Nat → Int64} {Q : jO → List jC → Prop} {p c : Int32} {n r : Nat} (hW : mWf A V n r) (hQ : Q (.inl (some (.int (mLate A p c r)))) (hp A V O)) : ∀ (d k : Nat), k + d = r →  GO l E 77 5 [some (.ref 25), some (.int p), some (.int c), some (.int (mLate A p c k)), some (.int (nI k))] [] (hp A V O) 0 0 Q := by
  intro d
  induction d with
  | zero =>
    intro k hk 
    have hn16 := hW.2.1
    have hr300 := hW.2.2.2.1
    refine R_iload z77_5 rfl ?_
    refine R_aload z77_7 rfl ?_
    refine R_get z77_8 (k := 4) (f := 10) (by decide +kernel) rfl rfl ?_
    refine R_icmp z77_11 (tn := 49) rfl (fun (h11 : ((V 10) : Int32) ≤ (nI k)) => ?_) (fun q => absurd ((show V 10 ≤ nI k by rw [hW.2.2.1, nge (by omega) (by omega)]; omega)) q)
    refine R_iload z77_49 rfl ?_
    exact R_iret z77_50 (Or.inl (by decide +kernel)) ⟨Nat.zero_le _, Nat.zero_le _⟩ (by rw [show k = r by omega]; exact hQ)
  | succ d ih =>
    intro k hk 
    have hn16 := hW.2.1
    have hr300 := hW.2.2.2.1
    refine R_iload z77_5 rfl ?_
    refine R_aload z77_7 rfl ?_
    refine R_get z77_8 (k := 4) (f := 10) (by decide +kernel) rfl rfl ?_
    refine R_icmp z77_11 (tn := 49) rfl (fun q => absurd q ((show ¬ V 10 ≤ nI k by rw [hW.2.2.1, nge (by omega) (by omega)]; omega))) (fun (h11 : ¬ ((V 10) : Int32) ≤ (nI k)) => ?_)
    refine R_aload z77_14 rfl ?_
    refine R_get z77_15 (k := 4) (f := 11) (by decide +kernel) rfl rfl ?_
    refine R_iload z77_18 rfl ?_
    refine R_ild z77_20 (n := 300) (f := A 32) (v := (A 32 k)) rfl (nin (by omega) (by decide)) (by rw [ncl (by omega)]) ?_
    refine R_iload z77_21 rfl ?_
    refine R_icmp z77_22 (tn := 41) rfl (fun (h22 : ¬ ((A 32 k) : Int32) = p) => ?_) (fun (h22 : ¬ (¬ ((A 32 k) : Int32) = p)) => ?_)
    · refine R_iload z77_41 rfl ?_
      refine R_istore z77_42 (loc' := [some (.ref 25), some (.int p), some (.int c), some (.int (mLate A p c k)), some (.int (nI k))]) rfl rfl ?_
      refine R_iinc z77_43 (v := 1) (loc' := [some (.ref 25), some (.int p), some (.int c), some (.int (mLate A p c k)), some (.int (nI (k + 1)))]) rfl rfl (by decide) (by rw [nI_1]; rfl) ?_
      refine R_goto z77_46 (tn := 5) rfl ?_
      have e9 : mLate A p c (k + 1) = mLate A p c k := by rw [mLate, if_neg (fun z => h22 z.1)]
      have G := ih (k + 1) (by omega)
      rw [e9] at G
      exact G
    · refine R_aload z77_25 rfl ?_
      refine R_get z77_26 (k := 4) (f := 12) (by decide +kernel) rfl rfl ?_
      refine R_iload z77_29 rfl ?_
      refine R_ild z77_31 (n := 300) (f := A 33) (v := (A 33 k)) rfl (nin (by omega) (by decide)) (by rw [ncl (by omega)]) ?_
      refine R_iload z77_32 rfl ?_
      refine R_icmp z77_33 (tn := 41) rfl (fun (h33 : ¬ ((A 33 k) : Int32) = c) => ?_) (fun (h33 : ¬ (¬ ((A 33 k) : Int32) = c)) => ?_)
      · refine R_iload z77_41 rfl ?_
        refine R_istore z77_42 (loc' := [some (.ref 25), some (.int p), some (.int c), some (.int (mLate A p c k)), some (.int (nI k))]) rfl rfl ?_
        refine R_iinc z77_43 (v := 1) (loc' := [some (.ref 25), some (.int p), some (.int c), some (.int (mLate A p c k)), some (.int (nI (k + 1)))]) rfl rfl (by decide) (by rw [nI_1]; rfl) ?_
        refine R_goto z77_46 (tn := 5) rfl ?_
        have e9 : mLate A p c (k + 1) = mLate A p c k := by rw [mLate, if_neg (fun z => h33 z.2)]
        have G := ih (k + 1) (by omega)
        rw [e9] at G
        exact G
      · refine R_iload z77_36 rfl ?_
        refine R_goto z77_38 (tn := 42) rfl ?_
        refine R_istore z77_42 (loc' := [some (.ref 25), some (.int p), some (.int c), some (.int (nI k)), some (.int (nI k))]) rfl rfl ?_
        refine R_iinc z77_43 (v := 1) (loc' := [some (.ref 25), some (.int p), some (.int c), some (.int (nI k)), some (.int (nI (k + 1)))]) rfl rfl (by decide) (by rw [nI_1]; rfl) ?_
        refine R_goto z77_46 (tn := 5) rfl ?_
        have e9 : mLate A p c (k + 1) = nI k := by rw [mLate, if_pos ⟨Classical.not_not.mp h22, Classical.not_not.mp h33⟩]
        have G := ih (k + 1) (by omega)
        rw [e9] at G
        exact G
theorem s77 {l : Launch} {E : jEnv} {A : Nat → Nat → Int32} {V : Nat → Int32} {O : Nat → Int64} {Q : jO → List jC → Prop} {p c : Int32} {n r : Nat} (hW : mWf A V n r) (hQ : Q (.inl (some (.int (mLate A p c r)))) (hp A V O)) : GO l E 77 0 [some (.ref 25), some (.int p), some (.int c), none, none] [] (hp A V O) 0 0 Q := by
  refine R_iconst z77_0 (v := (-1)) (by decide) ?_
  refine R_istore z77_1 (loc' := [some (.ref 25), some (.int p), some (.int c), some (.int (-1)), none]) rfl rfl ?_
  refine R_iconst z77_2 (v := 0) (by decide) ?_
  refine R_istore z77_3 (loc' := [some (.ref 25), some (.int p), some (.int c), some (.int (-1)), some (.int 0)]) rfl rfl ?_
  exact s77_lp hW hQ r 0 (by omega)
def mLap (A : Nat → Nat → Int32) (x : Nat) (d : Int32) : Int32 := A 34 x + A 26 (A 33 x).toNatClampNeg + nI (mOff A x d (A 36 x).toNatClampNeg)
theorem mlo_e {A : Nat → Nat → Int32} {x o u k : Nat} {d : Int32} {P : Int32 → Prop} (eu : A 36 x = nI u) (eo : A 33 x = nI o) (hk : k = u) (hu : u ≤ 50) (ho : o < 16) (h : P (mLap A x d)) : P (A 34 x + A 26 o + nI (mOff A x d k)) := by
  have e : mLap A x d = A 34 x + A 26 o + nI (mOff A x d k) := by rw [mLap, eu, eo, ncl (by omega), ncl (by omega), hk]
  rw [e] at h
  exact h
theorem s74_lp {l : Launch} {E : jEnv} {A : Nat → Nat → Int32} {V : Nat → Int32} {O : Nat → Int64} {Q : jO → List jC → Prop} {x o u : Nat} {d : Int32} (hx3 : x < 300) (ho : o < 16) (hu : u ≤ 50) (eo : A 33 x = nI o) (eu : A 36 x = nI u) (hQ : Q (.inl (some (.int (mLap A x d)))) (hp A V O)) : ∀ (dd k : Nat), k + dd = u →  GO l E 74 5 [some (.ref 25), some (.int (nI x)), some (.int d), some (.int (nI (mOff A x d k))), some (.int (nI k))] [] (hp A V O) 0 0 Q := by
  intro dd
  induction dd with
  | zero =>
    intro k hk 
    refine R_iload z74_5 rfl ?_
    refine R_aload z74_7 rfl ?_
    refine R_get z74_8 (k := 4) (f := 15) (by decide +kernel) rfl rfl ?_
    refine R_iload z74_11 rfl ?_
    refine R_ild z74_12 (n := 300) (f := A 36) (v := (nI u)) rfl (nin hx3 (by decide)) (by rw [ncl (by omega)]; exact eu) ?_
    refine R_icmp z74_13 (tn := 46) rfl (fun (h13 : ((nI u) : Int32) ≤ (nI k)) => ?_) (fun q => absurd ((show nI u ≤ nI k by rw [nge (by omega) (by omega)]; omega)) q)
    refine R_aload z74_46 rfl ?_
    refine R_get z74_47 (k := 4) (f := 13) (by decide +kernel) rfl rfl ?_
    refine R_iload z74_50 rfl ?_
    refine R_ild z74_51 (n := 300) (f := A 34) (v := (A 34 x)) rfl (nin hx3 (by decide)) (by rw [ncl (by omega)]) ?_
    refine R_aload z74_52 rfl ?_
    refine R_get z74_53 (k := 4) (f := 4) (by decide +kernel) rfl rfl ?_
    refine R_aload z74_56 rfl ?_
    refine R_get z74_57 (k := 4) (f := 12) (by decide +kernel) rfl rfl ?_
    refine R_iload z74_60 rfl ?_
    refine R_ild z74_61 (n := 300) (f := A 33) (v := (nI o)) rfl (nin hx3 (by decide)) (by rw [ncl (by omega)]; exact eo) ?_
    refine R_ild z74_62 (n := 16) (f := A 26) (v := (A 26 o)) rfl (nin ho (by decide)) (by rw [ncl (by omega)]) ?_
    refine R_iadd z74_63 ?_
    refine R_iload z74_64 rfl ?_
    refine R_iadd z74_65 ?_
    exact R_iret z74_66 (Or.inl (by decide +kernel)) ⟨Nat.zero_le _, Nat.zero_le _⟩ (mlo_e (P := fun v => Q (.inl (some (.int v))) (hp A V O)) eu eo (by omega) hu ho hQ)
  | succ dd ih =>
    intro k hk 
    refine R_iload z74_5 rfl ?_
    refine R_aload z74_7 rfl ?_
    refine R_get z74_8 (k := 4) (f := 15) (by decide +kernel) rfl rfl ?_
    refine R_iload z74_11 rfl ?_
    refine R_ild z74_12 (n := 300) (f := A 36) (v := (nI u)) rfl (nin hx3 (by decide)) (by rw [ncl (by omega)]; exact eu) ?_
    refine R_icmp z74_13 (tn := 46) rfl (fun q => absurd q ((show ¬ nI u ≤ nI k by rw [nge (by omega) (by omega)]; omega))) (fun (h13 : ¬ ((nI u) : Int32) ≤ (nI k)) => ?_)
    refine R_iload z74_16 rfl ?_
    refine R_aload z74_17 rfl ?_
    refine R_get z74_18 (k := 4) (f := 16) (by decide +kernel) rfl rfl ?_
    refine R_bipush z74_21 (v := 50) (by decide) ?_
    refine R_iload z74_23 rfl ?_
    refine R_imul z74_24 ?_
    refine R_iload z74_25 rfl ?_
    refine R_iadd z74_27 ?_
    refine R_top (y := nI (50 * x + k)) (by rw [show (50 : Int32) = nI 50 by decide, pk_mul, nI_add]) ?_
    refine R_ild z74_28 (n := 15000) (f := A 37) (v := (A 37 (50 * x + k))) rfl (nin (by omega) (by decide)) (by rw [ncl (by omega)]) ?_
    refine R_iload z74_29 rfl ?_
    refine R_icmp z74_30 (tn := 37) rfl (fun (h30 : (d : Int32) < (A 37 (50 * x + k))) => ?_) (fun (h30 : ¬ (d : Int32) < (A 37 (50 * x + k))) => ?_)
    · refine R_iconst z74_37 (v := 0) (by decide) ?_
      refine R_iadd z74_38 ?_
      refine R_top (y := nI (mOff A x d (k + 1))) (by rw [mOff, if_neg (Int32.not_le.mpr h30)]; exact (Int32.add_zero _)) ?_
      refine R_istore z74_39 (loc' := [some (.ref 25), some (.int (nI x)), some (.int d), some (.int (nI (mOff A x d (k + 1)))), some (.int (nI k))]) rfl rfl ?_
      refine R_iinc z74_40 (v := 1) (loc' := [some (.ref 25), some (.int (nI x)), some (.int d), some (.int (nI (mOff A x d (k + 1)))), some (.int (nI (k + 1)))]) rfl rfl (by decide) (by rw [nI_1]; rfl) ?_
      refine R_goto z74_43 (tn := 5) rfl ?_
      exact ih (k + 1) (by omega)
    · refine R_iconst z74_33 (v := 1) (by decide) ?_
      refine R_goto z74_34 (tn := 38) rfl ?_
      refine R_iadd z74_38 ?_
      refine R_top (y := nI (mOff A x d (k + 1))) (by rw [mOff, if_pos (Int32.not_lt.mp h30)]; exact nI_1 _) ?_
      refine R_istore z74_39 (loc' := [some (.ref 25), some (.int (nI x)), some (.int d), some (.int (nI (mOff A x d (k + 1)))), some (.int (nI k))]) rfl rfl ?_
      refine R_iinc z74_40 (v := 1) (loc' := [some (.ref 25), some (.int (nI x)), some (.int d), some (.int (nI (mOff A x d (k + 1)))), some (.int (nI (k + 1)))]) rfl rfl (by decide) (by rw [nI_1]; rfl) ?_
      refine R_goto z74_43 (tn := 5) rfl ?_
      exact ih (k + 1) (by omega)
theorem s74 {l : Launch} {E : jEnv} {A : Nat → Nat → Int32} {V : Nat → Int32} {O : Nat → Int64} {Q : jO → List jC → Prop} {x n r : Nat} {d : Int32} (hW : mWf A V n r) (hx : x < r) (hQ : Q (.inl (some (.int (mLap A x d)))) (hp A V O)) : GO l E 74 0 [some (.ref 25), some (.int (nI x)), some (.int d), none, none] [] (hp A V O) 0 0 Q := by
  refine R_iconst z74_0 (v := 0) (by decide) ?_
  refine R_istore z74_1 (loc' := [some (.ref 25), some (.int (nI x)), some (.int d), some (.int 0), none]) rfl rfl ?_
  refine R_iconst z74_2 (v := 0) (by decide) ?_
  refine R_istore z74_3 (loc' := [some (.ref 25), some (.int (nI x)), some (.int d), some (.int 0), some (.int 0)]) rfl rfl ?_
  obtain ⟨⟨o, ho, eo⟩, u, hu, eu⟩ := hW.2.2.2.2 x hx
  exact s74_lp (by have := hW.2.2.2.1; omega) ho hu eo eu hQ u 0 (by omega)
def mHeld (A : Nat → Nat → Int32) (r : Nat) (p c d : Int32) : Prop := ¬ mPass A p c d r < 0 ∧ d < mLap A (mPass A p c d r).toNatClampNeg d
theorem mPass_nat {A : Nat → Nat → Int32} {p c d : Int32} {r : Nat} (hr : r ≤ 300) (h : ¬ mPass A p c d r < 0) : ∃ x, x < r ∧ mPass A p c d r = nI x := by
  rcases mPass_pass A p c d r with e | ⟨x, hx, e⟩
  · rw [e] at h; exact absurd (by decide) h
  · exact ⟨x, hx, e⟩
theorem s74b {l : Launch} {E : jEnv} {A : Nat → Nat → Int32} {V : Nat → Int32} {O : Nat → Int64} {Q : jO → List jC → Prop} {x n r : Nat} {d y : Int32} (hW : mWf A V n r) (hx : x < r) (ey : y = nI x) (hQ : Q (.inl (some (.int (mLap A x d)))) (hp A V O)) : GO l E 74 0 [some (.ref 25), some (.int y), some (.int d), none, none] [] (hp A V O) 0 0 Q := by
  subst ey; exact s74 hW hx hQ
theorem s75 {l : Launch} {E : jEnv} {A : Nat → Nat → Int32} {V : Nat → Int32} {O : Nat → Int64} {Q : jO → List jC → Prop} {p c d : Int32} {n r : Nat} (hW : mWf A V n r) (h1 : mHeld A r p c d → Q (.inl (some (.int 1))) (hp A V O)) (h0 : ¬ mHeld A r p c d → Q (.inl (some (.int 0))) (hp A V O)) : GO l E 75 0 [some (.ref 25), some (.int p), some (.int c), some (.int d), none] [] (hp A V O) 0 0 Q := by
  refine R_aload z75_0 rfl ?_
  refine R_iload z75_1 rfl ?_
  refine R_iload z75_2 rfl ?_
  refine R_iload z75_3 rfl ?_
  refine R_cv z75_4 (k := 73) (by decide +kernel) rfl rfl (by decide +kernel) (Nat.le_of_ble_eq_true (by rfl)) rfl ⟨rfl, trivial⟩ ?_
  refine s73 hW (jBk_ret rfl ⟨rfl, rfl⟩ ?_)
  refine R_istore z75_7 (loc' := [some (.ref 25), some (.int p), some (.int c), some (.int d), some (.int (mPass A p c d r))]) rfl rfl ?_
  refine R_iload z75_9 rfl ?_
  refine R_if z75_11 (tn := 29) rfl (fun (h11 : ((mPass A p c d r) : Int32) < 0) => ?_) (fun (h11 : ¬ ((mPass A p c d r) : Int32) < 0) => ?_)
  · refine R_iconst z75_29 (v := 0) (by decide) ?_
    exact R_iret z75_30 (Or.inr (by decide)) ⟨Nat.zero_le _, Nat.zero_le _⟩ (h0 (fun z => z.1 h11))
  · obtain ⟨x, hx, ex⟩ := mPass_nat hW.2.2.2.1 h11
    refine R_iload z75_14 rfl ?_
    refine R_aload z75_15 rfl ?_
    refine R_iload z75_16 rfl ?_
    refine R_iload z75_18 rfl ?_
    refine R_cv z75_19 (k := 74) (by decide +kernel) rfl rfl (by decide +kernel) (Nat.le_of_ble_eq_true (by rfl)) rfl ⟨rfl, trivial⟩ ?_
    refine s74b hW hx ex (jBk_ret rfl ⟨rfl, rfl⟩ ?_)
    refine R_icmp z75_22 (tn := 29) rfl (fun (h22 : ((mLap A x d) : Int32) ≤ d) => ?_) (fun (h22 : ¬ ((mLap A x d) : Int32) ≤ d) => ?_)
    · refine R_iconst z75_29 (v := 0) (by decide) ?_
      exact R_iret z75_30 (Or.inr (by decide)) ⟨Nat.zero_le _, Nat.zero_le _⟩ (h0 (fun z => absurd h22 (Int32.not_le.mpr (by have y := z.2; rw [ex, ncl (by have := hW.2.2.2.1; omega)] at y; exact y))))
    · refine R_iconst z75_25 (v := 1) (by decide) ?_
      refine R_goto z75_26 (tn := 30) rfl ?_
      exact R_iret z75_30 (Or.inr (by decide)) ⟨Nat.zero_le _, Nat.zero_le _⟩ (h1 ⟨h11, by rw [ex, ncl (by have := hW.2.2.2.1; omega)]; exact Int32.not_le.mp h22⟩)
end
section
theorem mpair (a p c : Nat) (x : Int32) (hx : x = nI a) : x * nI p + nI c = nI (a * p + c) := by rw [hx, pk_mul, nI_add]
theorem mp16 (p c : Nat) : (16 : Int32) * nI p + nI c = nI (16 * p + c) := mpair 16 p c _ (by decide)
def mCounts (A : Nat → Nat → Int32) (V : Nat → Int32) (r p c : Nat) : Prop := ¬ A 31 (16 * p + c) = 0 ∧ mHeld A r (nI p) (nI c) (V 7)
theorem s79 {l : Launch} {E : jEnv} {A : Nat → Nat → Int32} {V : Nat → Int32} {O : Nat → Int64} {Q : jO → List jC → Prop} {p c n r : Nat} (hW : mWf A V n r) (hp2 : p < 20) (hc : c < 16) (h1 : mCounts A V r p c → Q (.inl (some (.int 1))) (hp A V O)) (h0 : ¬ mCounts A V r p c → Q (.inl (some (.int 0))) (hp A V O)) : GO l E 79 0 [some (.ref 25), some (.int (nI p)), some (.int (nI c))] [] (hp A V O) 0 0 Q := by
  refine R_aload z79_0 rfl ?_
  refine R_get z79_1 (k := 4) (f := 9) (by decide +kernel) rfl rfl ?_
  refine R_bipush z79_4 (v := 16) (by decide) ?_
  refine R_iload z79_6 rfl ?_
  refine R_imul z79_7 ?_
  refine R_iload z79_8 rfl ?_
  refine R_iadd z79_9 ?_
  refine R_top (y := nI (16 * p + c)) (mp16 p c) ?_
  refine R_zld z79_10 (n := 320) (f := A 31) (v := (A 31 (16 * p + c))) rfl (nin (by omega) (by decide)) (by rw [ncl (by omega)]) ?_
  refine R_if z79_11 (tn := 31) rfl (fun (h11 : ((A 31 (16 * p + c)) : Int32) = 0) => ?_) (fun (h11 : ¬ ((A 31 (16 * p + c)) : Int32) = 0) => ?_)
  · refine R_iconst z79_31 (v := 0) (by decide) ?_
    exact R_iret z79_32 (Or.inr (by decide)) ⟨Nat.zero_le _, Nat.zero_le _⟩ (h0 (fun z => z.1 h11))
  · refine R_aload z79_14 rfl ?_
    refine R_iload z79_15 rfl ?_
    refine R_iload z79_16 rfl ?_
    refine R_aload z79_17 rfl ?_
    refine R_get z79_18 (k := 4) (f := 1) (by decide +kernel) rfl rfl ?_
    refine R_cv z79_21 (k := 75) (by decide +kernel) rfl rfl (by decide +kernel) (Nat.le_of_ble_eq_true (by rfl)) rfl ⟨rfl, trivial⟩ ?_
    refine s75 hW (fun g => jBk_ret rfl ⟨rfl, rfl⟩ ?_) (fun g => jBk_ret rfl ⟨rfl, rfl⟩ ?_)
    · refine R_if z79_24 (tn := 31) rfl (fun q => absurd (show (1 : Int32) = 0 from q) (by decide)) (fun _ => ?_)
      refine R_iconst z79_27 (v := 1) (by decide) ?_
      refine R_goto z79_28 (tn := 32) rfl ?_
      exact R_iret z79_32 (Or.inr (by decide)) ⟨Nat.zero_le _, Nat.zero_le _⟩ (h1 ⟨h11, g⟩)
    · refine R_if z79_24 (tn := 31) rfl (fun _ => ?_) (fun q => absurd (show (0 : Int32) = 0 by decide) q)
      refine R_iconst z79_31 (v := 0) (by decide) ?_
      exact R_iret z79_32 (Or.inr (by decide)) ⟨Nat.zero_le _, Nat.zero_le _⟩ (h0 (fun z => g z.2))
def mMiss (A : Nat → Nat → Int32) (V : Nat → Int32) (r p c o : Nat) : Prop := ¬ A 30 (16 * c + o) = 0 ∧ ¬ mHeld A r (nI p) (nI o) (V 7)
noncomputable def mWhy (A : Nat → Nat → Int32) (V : Nat → Int32) (n r p c : Nat) : Nat := @ite _ (∃ o, o < n ∧ mMiss A V r p c o) (Classical.propDecidable _) 1 (if ¬ A 31 (16 * p + c) = 0 then 2 else if ¬ nI (mFails A (nI p) (nI c) r) < 3 ∧ ¬ V 8 ≤ V 7 - A 34 (mLate A (nI p) (nI c) r).toNatClampNeg then 3 else 0)
theorem mLate_pass (A : Nat → Nat → Int32) (p c : Int32) : ∀ k, jpass (mLate A p c k) k
  | 0 => Or.inl rfl
  | k + 1 => by
    unfold mLate
    split
    · exact Or.inr ⟨k, by omega, rfl⟩
    · rcases mLate_pass A p c k with e | ⟨j, hj, e⟩
      · exact Or.inl e
      · exact Or.inr ⟨j, by omega, e⟩
theorem mLate_fails (A : Nat → Nat → Int32) (p c : Int32) : ∀ k, k ≤ 300 → mLate A p c k = -1 → mFails A p c k = 0
  | 0, _, _ => rfl
  | k + 1, hk, h => by
    unfold mLate at h
    unfold mFails
    by_cases g : A 32 k = p ∧ A 33 k = c
    · rw [if_pos g] at h
      exact absurd h (nm1 (by omega))
    · rw [if_neg g] at h
      rw [if_neg g]
      exact mLate_fails A p c k (by omega) h
theorem s78_b {l : Launch} {E : jEnv} {A : Nat → Nat → Int32} {V : Nat → Int32} {O : Nat → Int64} {Q : jO → List jC → Prop} {p c n r : Nat} {y : Option Value} (hW : mWf A V n r) (hp2 : p < 20) (hc : c < 16) (e0 : mWhy A V n r p c = (if ¬ A 31 (16 * p + c) = 0 then 2 else if ¬ nI (mFails A (nI p) (nI c) r) < 3 ∧ ¬ V 8 ≤ V 7 - A 34 (mLate A (nI p) (nI c) r).toNatClampNeg then 3 else 0)) (hQ : Q (.inl (some (.int (nI (mWhy A V n r p c))))) (hp A V O)) : GO l E 78 45 [some (.ref 25), some (.int (nI p)), some (.int (nI c)), y] [] (hp A V O) 0 0 Q := by
  rw [e0] at hQ
  refine R_aload z78_45 rfl ?_
  refine R_get z78_46 (k := 4) (f := 9) (by decide +kernel) rfl rfl ?_
  refine R_bipush z78_49 (v := 16) (by decide) ?_
  refine R_iload z78_51 rfl ?_
  refine R_imul z78_52 ?_
  refine R_iload z78_53 rfl ?_
  refine R_iadd z78_54 ?_
  refine R_top (y := nI (16 * p + c)) (mp16 p c) ?_
  refine R_zld z78_55 (n := 320) (f := A 31) (v := (A 31 (16 * p + c))) rfl (nin (by omega) (by decide)) (by rw [ncl (by omega)]) ?_
  refine R_if z78_56 (tn := 61) rfl (fun (h56 : ((A 31 (16 * p + c)) : Int32) = 0) => ?_) (fun (h56 : ¬ ((A 31 (16 * p + c)) : Int32) = 0) => ?_)
  · refine R_aload z78_61 rfl ?_
    refine R_iload z78_62 rfl ?_
    refine R_iload z78_63 rfl ?_
    refine R_cv z78_64 (k := 76) (by decide +kernel) rfl rfl (by decide +kernel) (Nat.le_of_ble_eq_true (by rfl)) rfl ⟨rfl, trivial⟩ ?_
    refine s76 hW (jBk_ret rfl ⟨rfl, rfl⟩ ?_)
    refine R_iconst z78_67 (v := 3) (by decide) ?_
    refine R_icmp z78_68 (tn := 98) rfl (fun (h68 : ((nI (mFails A (nI p) (nI c) r)) : Int32) < 3) => ?_) (fun (h68 : ¬ ((nI (mFails A (nI p) (nI c) r)) : Int32) < 3) => ?_)
    · refine R_iconst z78_98 (v := 0) (by decide) ?_
      exact R_iret z78_99 (Or.inl (by decide +kernel)) ⟨Nat.zero_le _, Nat.zero_le _⟩ (by rw [if_neg (fun z => z h56), if_neg (fun z => z.1 h68)] at hQ; exact hQ)
    · refine R_aload z78_71 rfl ?_
      refine R_get z78_72 (k := 4) (f := 1) (by decide +kernel) rfl rfl ?_
      refine R_aload z78_75 rfl ?_
      refine R_get z78_76 (k := 4) (f := 13) (by decide +kernel) rfl rfl ?_
      refine R_aload z78_79 rfl ?_
      refine R_iload z78_80 rfl ?_
      refine R_iload z78_81 rfl ?_
      refine R_cv z78_82 (k := 77) (by decide +kernel) rfl rfl (by decide +kernel) (Nat.le_of_ble_eq_true (by rfl)) rfl ⟨rfl, trivial⟩ ?_
      refine s77 hW (jBk_ret rfl ⟨rfl, rfl⟩ ?_)
      refine R_ild z78_85 (n := 300) (f := A 34) (v := (A 34 ((mLate A (nI p) (nI c) r)).toNatClampNeg)) rfl (jpass_in (mLate_pass A (nI p) (nI c) r) (fun z => by rw [mLate_fails _ _ _ r hW.2.2.2.1 z] at h68; exact h68 (by decide)) hW.2.2.2.1 (by decide)) (rfl) ?_
      refine R_isub z78_86 ?_
      refine R_aload z78_87 rfl ?_
      refine R_get z78_88 (k := 4) (f := 2) (by decide +kernel) rfl rfl ?_
      refine R_icmp z78_91 (tn := 98) rfl (fun (h91 : ((V 8) : Int32) ≤ ((V 7) - (A 34 ((mLate A (nI p) (nI c) r)).toNatClampNeg))) => ?_) (fun (h91 : ¬ ((V 8) : Int32) ≤ ((V 7) - (A 34 ((mLate A (nI p) (nI c) r)).toNatClampNeg))) => ?_)
      · refine R_iconst z78_98 (v := 0) (by decide) ?_
        exact R_iret z78_99 (Or.inl (by decide +kernel)) ⟨Nat.zero_le _, Nat.zero_le _⟩ (by rw [if_neg (fun z => z h56), if_neg (fun z => z.2 h91)] at hQ; exact hQ)
      · refine R_iconst z78_94 (v := 3) (by decide) ?_
        refine R_goto z78_95 (tn := 99) rfl ?_
        exact R_iret z78_99 (Or.inl (by decide +kernel)) ⟨Nat.zero_le _, Nat.zero_le _⟩ (by rw [if_neg (fun z => z h56), if_pos ⟨h68, h91⟩] at hQ; exact hQ)
  · refine R_iconst z78_59 (v := 2) (by decide) ?_
    exact R_iret z78_60 (Or.inl (by decide +kernel)) ⟨Nat.zero_le _, Nat.zero_le _⟩ (by rw [if_pos h56] at hQ; exact hQ)
theorem s78_lp {l : Launch} {E : jEnv} {A : Nat → Nat → Int32} {V : Nat → Int32} {O : Nat → Int64} {Q : jO → List jC → Prop} {p c n r : Nat} (hW : mWf A V n r) (hp2 : p < 20) (hc : c < 16) (hQ : Q (.inl (some (.int (nI (mWhy A V n r p c))))) (hp A V O)) : ∀ (d k : Nat), k + d = n → (∀ o, o < k → ¬ mMiss A V r p c o) → GO l E 78 2 [some (.ref 25), some (.int (nI p)), some (.int (nI c)), some (.int (nI k))] [] (hp A V O) 0 0 Q := by
  intro d
  induction d with
  | zero =>
    intro k hk ha
    have hn16 := hW.2.1
    have hr300 := hW.2.2.2.1
    refine R_iload z78_2 rfl ?_
    refine R_aload z78_3 rfl ?_
    refine R_get z78_4 (k := 4) (f := 3) (by decide +kernel) rfl rfl ?_
    refine R_icmp z78_7 (tn := 45) rfl (fun (h7 : ((V 9) : Int32) ≤ (nI k)) => ?_) (fun q => absurd ((show V 9 ≤ nI k by rw [hW.1, nge (by omega) (by omega)]; omega)) q)
    exact s78_b hW hp2 hc (if_neg (fun ⟨o, a, b⟩ => ha o (by omega) b)) hQ
  | succ d ih =>
    intro k hk ha
    have hn16 := hW.2.1
    have hr300 := hW.2.2.2.1
    refine R_iload z78_2 rfl ?_
    refine R_aload z78_3 rfl ?_
    refine R_get z78_4 (k := 4) (f := 3) (by decide +kernel) rfl rfl ?_
    refine R_icmp z78_7 (tn := 45) rfl (fun q => absurd q ((show ¬ V 9 ≤ nI k by rw [hW.1, nge (by omega) (by omega)]; omega))) (fun (h7 : ¬ ((V 9) : Int32) ≤ (nI k)) => ?_)
    refine R_aload z78_10 rfl ?_
    refine R_get z78_11 (k := 4) (f := 8) (by decide +kernel) rfl rfl ?_
    refine R_bipush z78_14 (v := 16) (by decide) ?_
    refine R_iload z78_16 rfl ?_
    refine R_imul z78_17 ?_
    refine R_iload z78_18 rfl ?_
    refine R_iadd z78_19 ?_
    refine R_top (y := nI (16 * c + k)) (mp16 c k) ?_
    refine R_zld z78_20 (n := 256) (f := A 30) (v := (A 30 (16 * c + k))) rfl (nin (by omega) (by decide)) (by rw [ncl (by omega)]) ?_
    refine R_if z78_21 (tn := 39) rfl (fun (h21 : ((A 30 (16 * c + k)) : Int32) = 0) => ?_) (fun (h21 : ¬ ((A 30 (16 * c + k)) : Int32) = 0) => ?_)
    · refine R_iinc z78_39 (v := 1) (loc' := [some (.ref 25), some (.int (nI p)), some (.int (nI c)), some (.int (nI (k + 1)))]) rfl rfl (by decide) (by rw [nI_1]; rfl) ?_
      refine R_goto z78_42 (tn := 2) rfl ?_
      exact ih (k + 1) (by omega) (fun o ho b => by
        rcases Nat.lt_or_ge o k with q | q
        · exact ha o q b
        · have e : o = k := by omega
          subst e
          exact b.1 h21)
    · refine R_aload z78_24 rfl ?_
      refine R_iload z78_25 rfl ?_
      refine R_iload z78_26 rfl ?_
      refine R_aload z78_27 rfl ?_
      refine R_get z78_28 (k := 4) (f := 1) (by decide +kernel) rfl rfl ?_
      refine R_cv z78_31 (k := 75) (by decide +kernel) rfl rfl (by decide +kernel) (Nat.le_of_ble_eq_true (by rfl)) rfl ⟨rfl, trivial⟩ ?_
      refine s75 hW (fun g => jBk_ret rfl ⟨rfl, rfl⟩ ?_) (fun g => jBk_ret rfl ⟨rfl, rfl⟩ ?_)
      · refine R_if z78_34 (tn := 39) rfl (fun _ => ?_) (fun q => absurd (show ¬ (1 : Int32) = 0 by decide) q)
        refine R_iinc z78_39 (v := 1) (loc' := [some (.ref 25), some (.int (nI p)), some (.int (nI c)), some (.int (nI (k + 1)))]) rfl rfl (by decide) (by rw [nI_1]; rfl) ?_
        refine R_goto z78_42 (tn := 2) rfl ?_
        exact ih (k + 1) (by omega) (fun o ho b => by
          rcases Nat.lt_or_ge o k with q | q
          · exact ha o q b
          · have e : o = k := by omega
            subst e
            exact b.2 g)
      · refine R_if z78_34 (tn := 39) rfl (fun q => absurd (show ¬ (0 : Int32) = 0 from q) (by decide)) (fun _ => ?_)
        refine R_iconst z78_37 (v := 1) (by decide) ?_
        exact R_iret z78_38 (Or.inl (by decide +kernel)) ⟨Nat.zero_le _, Nat.zero_le _⟩ (by have e : mWhy A V n r p c = 1 := if_pos ⟨k, by omega, h21, g⟩; rw [e] at hQ; exact hQ)
theorem s78 {l : Launch} {E : jEnv} {A : Nat → Nat → Int32} {V : Nat → Int32} {O : Nat → Int64} {Q : jO → List jC → Prop} {p c n r : Nat} (hW : mWf A V n r) (hp2 : p < 20) (hc : c < 16) (hQ : Q (.inl (some (.int (nI (mWhy A V n r p c))))) (hp A V O)) : GO l E 78 0 [some (.ref 25), some (.int (nI p)), some (.int (nI c)), none] [] (hp A V O) 0 0 Q := by
  refine R_iconst z78_0 (v := 0) (by decide) ?_
  refine R_istore z78_1 (loc' := [some (.ref 25), some (.int (nI p)), some (.int (nI c)), some (.int 0)]) rfl rfl ?_
  exact s78_lp hW hp2 hc hQ n 0 (by omega) (fun o ho => absurd ho (by omega))
def mAdd (A : Nat → Nat → Int32) (V : Nat → Int32) (r : Nat) (p c b : Int32) : Nat → Nat → Int32 := va_up (va_up (va_up (va_up A 32 (upd (A 32) r p)) 33 (upd (A 33) r c)) 34 (upd (A 34) r (V 7))) 35 (upd (A 35) r (b &&& 1))
theorem s81 {l : Launch} {E : jEnv} {A : Nat → Nat → Int32} {V : Nat → Int32} {O : Nat → Int64} {Q : jO → List jC → Prop} {r : Nat} {p c b : Int32} (hr : V 10 = nI r) (hr3 : r < 300) (hQ : Q (.inl (some (.int (nI r)))) (hp (mAdd A V r p c b) (va_up V 10 (nI (r + 1))) O)) : GO l E 81 0 [some (.ref 25), some (.int p), some (.int c), some (.int b)] [] (hp A V O) 0 0 Q := by
  refine R_aload z81_0 rfl ?_
  refine R_get z81_1 (k := 4) (f := 11) (by decide +kernel) rfl rfl ?_
  refine R_aload z81_4 rfl ?_
  refine R_get z81_5 (k := 4) (f := 10) (by decide +kernel) rfl rfl ?_
  refine R_iload z81_8 rfl ?_
  refine R_ist z81_9 (n := 300) (f := A 32) (h' := hp (va_up A 32 (upd (A 32) r p)) V O) rfl (by rw [hr]; exact nin hr3 (by decide)) (by rw [hr, ncl (by omega)]; rfl) ?_
  refine R_aload z81_10 rfl ?_
  refine R_get z81_11 (k := 4) (f := 12) (by decide +kernel) rfl rfl ?_
  refine R_aload z81_14 rfl ?_
  refine R_get z81_15 (k := 4) (f := 10) (by decide +kernel) rfl rfl ?_
  refine R_iload z81_18 rfl ?_
  refine R_ist z81_19 (n := 300) (f := (va_up A 32 (upd (A 32) r p)) 33) (h' := hp (va_up (va_up A 32 (upd (A 32) r p)) 33 (upd (A 33) r c)) V O) rfl (by rw [hr]; exact nin hr3 (by decide)) (by rw [hr, ncl (by omega)]; rfl) ?_
  refine R_aload z81_20 rfl ?_
  refine R_get z81_21 (k := 4) (f := 13) (by decide +kernel) rfl rfl ?_
  refine R_aload z81_24 rfl ?_
  refine R_get z81_25 (k := 4) (f := 10) (by decide +kernel) rfl rfl ?_
  refine R_aload z81_28 rfl ?_
  refine R_get z81_29 (k := 4) (f := 1) (by decide +kernel) rfl rfl ?_
  refine R_ist z81_32 (n := 300) (f := (va_up (va_up A 32 (upd (A 32) r p)) 33 (upd (A 33) r c)) 34) (h' := hp (va_up (va_up (va_up A 32 (upd (A 32) r p)) 33 (upd (A 33) r c)) 34 (upd (A 34) r (V 7))) V O) rfl (by rw [hr]; exact nin hr3 (by decide)) (by rw [hr, ncl (by omega)]; rfl) ?_
  refine R_aload z81_33 rfl ?_
  refine R_get z81_34 (k := 4) (f := 14) (by decide +kernel) rfl rfl ?_
  refine R_aload z81_37 rfl ?_
  refine R_get z81_38 (k := 4) (f := 10) (by decide +kernel) rfl rfl ?_
  refine R_iload z81_41 rfl ?_
  refine R_zst z81_42 (n := 300) (f := (va_up (va_up (va_up A 32 (upd (A 32) r p)) 33 (upd (A 33) r c)) 34 (upd (A 34) r (V 7))) 35) (h' := hp (mAdd A V r p c b) V O) rfl (by rw [hr]; exact nin hr3 (by decide)) (by rw [hr, ncl (by omega)]; rfl) ?_
  refine R_aload z81_43 rfl ?_
  refine R_dup z81_44 ?_
  refine R_get z81_45 (k := 4) (f := 10) (by decide +kernel) rfl rfl ?_
  refine R_iconst z81_48 (v := 1) (by decide) ?_
  refine R_iadd z81_49 ?_
  refine R_top (y := nI (r + 1)) (by rw [hr, nI_1]) ?_
  refine R_puti z81_50 (k := 4) (f := 10) (h' := hp (mAdd A V r p c b) (va_up V 10 (nI (r + 1))) O) (by decide +kernel) (by decide +kernel) rfl (Nat.le_of_ble_eq_true rfl) rfl ?_
  refine R_aload z81_53 rfl ?_
  refine R_get z81_54 (k := 4) (f := 10) (by decide +kernel) rfl rfl ?_
  refine R_iconst z81_57 (v := 1) (by decide) ?_
  refine R_isub z81_58 ?_
  refine R_top (y := nI r) (by exact nI_pred r) ?_
  exact R_iret z81_59 (Or.inl (by decide +kernel)) ⟨Nat.zero_le _, Nat.zero_le _⟩ (hQ)
end
section
noncomputable def mSum (A : Nat → Nat → Int32) (V : Nat → Int32) (r c : Nat) : Nat → Int32
  | 0 => 0
  | k + 1 => mSum A V r c k + @ite _ (mCounts A V r k c) (Classical.propDecidable _) (A 29 c) 0
def mToday (A : Nat → Nat → Int32) (V : Nat → Int32) (c : Nat) : Nat → Nat
  | 0 => 0
  | k + 1 => mToday A V c k + (if A 33 k = nI c ∧ A 34 k = V 7 then 1 else 0)
noncomputable def mRoom (A : Nat → Nat → Int32) (V : Nat → Int32) (r c : Nat) : Int32 := if 0 ≤ mSum A V r c 20 - nI (mToday A V c r) then mSum A V r c 20 - nI (mToday A V c r) else 0
theorem nsub1 (x : Int32) (t : Nat) : x - nI t - 1 = x - nI (t + 1) := by rw [← nI_1, Int32.sub_sub]
theorem s80b_lp {l : Launch} {E : jEnv} {A : Nat → Nat → Int32} {V : Nat → Int32} {O : Nat → Int64} {Q : jO → List jC → Prop} {c n r : Nat} (hW : mWf A V n r) (hc : c < 16) (hQ : Q (.inl (some (.int (mRoom A V r c)))) (hp A V O)) : ∀ (d k : Nat), k + d = r →  GO l E 80 40 [some (.ref 25), some (.int (nI c)), some (.int (mSum A V r c 20 - nI (mToday A V c k))), some (.int (nI k))] [] (hp A V O) 0 0 Q := by
  intro d
  induction d with
  | zero =>
    intro k hk 
    have hn16 := hW.2.1
    have hr300 := hW.2.2.2.1
    refine R_iload z80_40 rfl ?_
    refine R_aload z80_41 rfl ?_
    refine R_get z80_42 (k := 4) (f := 10) (by decide +kernel) rfl rfl ?_
    refine R_icmp z80_45 (tn := 85) rfl (fun (h45 : ((V 10) : Int32) ≤ (nI k)) => ?_) (fun q => absurd ((show V 10 ≤ nI k by rw [hW.2.2.1, nge (by omega) (by omega)]; omega)) q)
    have ek : k = r := by omega
    rw [ek]
    refine R_iload z80_85 rfl ?_
    refine R_if z80_86 (tn := 93) rfl (fun (h86 : (0 : Int32) ≤ (mSum A V r c 20 - nI (mToday A V c r))) => ?_) (fun (h86 : ¬ (0 : Int32) ≤ (mSum A V r c 20 - nI (mToday A V c r))) => ?_)
    · refine R_iload z80_93 rfl ?_
      exact R_iret z80_94 (Or.inl (by decide +kernel)) ⟨Nat.zero_le _, Nat.zero_le _⟩ (by have e : mRoom A V r c = _ := if_pos h86; rw [e] at hQ; exact hQ)
    · refine R_iconst z80_89 (v := 0) (by decide) ?_
      refine R_goto z80_90 (tn := 94) rfl ?_
      exact R_iret z80_94 (Or.inl (by decide +kernel)) ⟨Nat.zero_le _, Nat.zero_le _⟩ (by have e : mRoom A V r c = _ := if_neg h86; rw [e] at hQ; exact hQ)
  | succ d ih =>
    intro k hk 
    have hn16 := hW.2.1
    have hr300 := hW.2.2.2.1
    refine R_iload z80_40 rfl ?_
    refine R_aload z80_41 rfl ?_
    refine R_get z80_42 (k := 4) (f := 10) (by decide +kernel) rfl rfl ?_
    refine R_icmp z80_45 (tn := 85) rfl (fun q => absurd q ((show ¬ V 10 ≤ nI k by rw [hW.2.2.1, nge (by omega) (by omega)]; omega))) (fun (h45 : ¬ ((V 10) : Int32) ≤ (nI k)) => ?_)
    refine R_iload z80_48 rfl ?_
    refine R_aload z80_49 rfl ?_
    refine R_get z80_50 (k := 4) (f := 12) (by decide +kernel) rfl rfl ?_
    refine R_iload z80_53 rfl ?_
    refine R_ild z80_54 (n := 300) (f := A 33) (v := (A 33 k)) rfl (nin (by omega) (by decide)) (by rw [ncl (by omega)]) ?_
    refine R_iload z80_55 rfl ?_
    refine R_icmp z80_56 (tn := 76) rfl (fun (h56 : ¬ ((A 33 k) : Int32) = (nI c)) => ?_) (fun (h56 : ¬ (¬ ((A 33 k) : Int32) = (nI c))) => ?_)
    · refine R_iconst z80_76 (v := 0) (by decide) ?_
      refine R_isub z80_77 ?_
      refine R_top (y := mSum A V r c 20 - nI (mToday A V c (k + 1))) (by rw [mToday, if_neg (fun z => h56 z.1)]; exact Int32.sub_zero _) ?_
      refine R_istore z80_78 (loc' := [some (.ref 25), some (.int (nI c)), some (.int (mSum A V r c 20 - nI (mToday A V c (k + 1)))), some (.int (nI k))]) rfl rfl ?_
      refine R_iinc z80_79 (v := 1) (loc' := [some (.ref 25), some (.int (nI c)), some (.int (mSum A V r c 20 - nI (mToday A V c (k + 1)))), some (.int (nI (k + 1)))]) rfl rfl (by decide) (by rw [nI_1]; rfl) ?_
      refine R_goto z80_82 (tn := 40) rfl ?_
      exact ih (k + 1) (by omega)
    · refine R_aload z80_59 rfl ?_
      refine R_get z80_60 (k := 4) (f := 13) (by decide +kernel) rfl rfl ?_
      refine R_iload z80_63 rfl ?_
      refine R_ild z80_64 (n := 300) (f := A 34) (v := (A 34 k)) rfl (nin (by omega) (by decide)) (by rw [ncl (by omega)]) ?_
      refine R_aload z80_65 rfl ?_
      refine R_get z80_66 (k := 4) (f := 1) (by decide +kernel) rfl rfl ?_
      refine R_icmp z80_69 (tn := 76) rfl (fun (h69 : ¬ ((A 34 k) : Int32) = (V 7)) => ?_) (fun (h69 : ¬ (¬ ((A 34 k) : Int32) = (V 7))) => ?_)
      · refine R_iconst z80_76 (v := 0) (by decide) ?_
        refine R_isub z80_77 ?_
        refine R_top (y := mSum A V r c 20 - nI (mToday A V c (k + 1))) (by rw [mToday, if_neg (fun z => h69 z.2)]; exact Int32.sub_zero _) ?_
        refine R_istore z80_78 (loc' := [some (.ref 25), some (.int (nI c)), some (.int (mSum A V r c 20 - nI (mToday A V c (k + 1)))), some (.int (nI k))]) rfl rfl ?_
        refine R_iinc z80_79 (v := 1) (loc' := [some (.ref 25), some (.int (nI c)), some (.int (mSum A V r c 20 - nI (mToday A V c (k + 1)))), some (.int (nI (k + 1)))]) rfl rfl (by decide) (by rw [nI_1]; rfl) ?_
        refine R_goto z80_82 (tn := 40) rfl ?_
        exact ih (k + 1) (by omega)
      · refine R_iconst z80_72 (v := 1) (by decide) ?_
        refine R_goto z80_73 (tn := 77) rfl ?_
        refine R_isub z80_77 ?_
        refine R_top (y := mSum A V r c 20 - nI (mToday A V c (k + 1))) (by rw [mToday, if_pos ⟨Classical.not_not.mp h56, Classical.not_not.mp h69⟩]; exact nsub1 _ _) ?_
        refine R_istore z80_78 (loc' := [some (.ref 25), some (.int (nI c)), some (.int (mSum A V r c 20 - nI (mToday A V c (k + 1)))), some (.int (nI k))]) rfl rfl ?_
        refine R_iinc z80_79 (v := 1) (loc' := [some (.ref 25), some (.int (nI c)), some (.int (mSum A V r c 20 - nI (mToday A V c (k + 1)))), some (.int (nI (k + 1)))]) rfl rfl (by decide) (by rw [nI_1]; rfl) ?_
        refine R_goto z80_82 (tn := 40) rfl ?_
        exact ih (k + 1) (by omega)
theorem s80_lp {l : Launch} {E : jEnv} {A : Nat → Nat → Int32} {V : Nat → Int32} {O : Nat → Int64} {Q : jO → List jC → Prop} {c n r : Nat} (hW : mWf A V n r) (hc : c < 16) (hQ : Q (.inl (some (.int (mRoom A V r c)))) (hp A V O)) : ∀ (d k : Nat), k + d = 20 →  GO l E 80 4 [some (.ref 25), some (.int (nI c)), some (.int (mSum A V r c k)), some (.int (nI k))] [] (hp A V O) 0 0 Q := by
  intro d
  induction d with
  | zero =>
    intro k hk 
    have hn16 := hW.2.1
    have hr300 := hW.2.2.2.1
    refine R_iload z80_4 rfl ?_
    refine R_bipush z80_5 (v := 20) (by decide) ?_
    refine R_icmp z80_7 (tn := 38) rfl (fun (h7 : (20 : Int32) ≤ (nI k)) => ?_) (fun q => absurd ((show (20 : Int32) ≤ nI k by rw [n20, nge (by omega) (by omega)]; omega)) q)
    refine R_iconst z80_38 (v := 0) (by decide) ?_
    refine R_istore z80_39 (loc' := [some (.ref 25), some (.int (nI c)), some (.int (mSum A V r c k)), some (.int 0)]) rfl rfl ?_
    have e : mSum A V r c k = mSum A V r c 20 - nI (mToday A V c 0) := by rw [show k = 20 by omega]; exact (Int32.sub_zero _).symm
    rw [e]
    exact s80b_lp hW hc hQ r 0 (by omega)
  | succ d ih =>
    intro k hk 
    have hn16 := hW.2.1
    have hr300 := hW.2.2.2.1
    refine R_iload z80_4 rfl ?_
    refine R_bipush z80_5 (v := 20) (by decide) ?_
    refine R_icmp z80_7 (tn := 38) rfl (fun q => absurd q ((show ¬ (20 : Int32) ≤ nI k by rw [n20, nge (by omega) (by omega)]; omega))) (fun (h7 : ¬ (20 : Int32) ≤ (nI k)) => ?_)
    refine R_iload z80_10 rfl ?_
    refine R_aload z80_11 rfl ?_
    refine R_iload z80_12 rfl ?_
    refine R_iload z80_13 rfl ?_
    refine R_cv z80_14 (k := 79) (by decide +kernel) rfl rfl (by decide +kernel) (Nat.le_of_ble_eq_true (by rfl)) rfl ⟨rfl, trivial⟩ ?_
    refine s79 hW (by omega) hc (fun g => jBk_ret rfl ⟨rfl, rfl⟩ ?_) (fun g => jBk_ret rfl ⟨rfl, rfl⟩ ?_)
    · refine R_if z80_17 (tn := 29) rfl (fun q => absurd (show (1 : Int32) = 0 from q) (by decide)) (fun _ => ?_)
      refine R_aload z80_20 rfl ?_
      refine R_get z80_21 (k := 4) (f := 7) (by decide +kernel) rfl rfl ?_
      refine R_iload z80_24 rfl ?_
      refine R_ild z80_25 (n := 16) (f := A 29) (v := (A 29 c)) rfl (nin hc (by decide)) (by rw [ncl (by omega)]) ?_
      refine R_goto z80_26 (tn := 30) rfl ?_
      refine R_iadd z80_30 ?_
      refine R_top (y := mSum A V r c (k + 1)) (by rw [mSum, if_pos g]) ?_
      refine R_istore z80_31 (loc' := [some (.ref 25), some (.int (nI c)), some (.int (mSum A V r c (k + 1))), some (.int (nI k))]) rfl rfl ?_
      refine R_iinc z80_32 (v := 1) (loc' := [some (.ref 25), some (.int (nI c)), some (.int (mSum A V r c (k + 1))), some (.int (nI (k + 1)))]) rfl rfl (by decide) (by rw [nI_1]; rfl) ?_
      refine R_goto z80_35 (tn := 4) rfl ?_
      exact ih (k + 1) (by omega)
    · refine R_if z80_17 (tn := 29) rfl (fun _ => ?_) (fun q => absurd (show (0 : Int32) = 0 by decide) q)
      refine R_iconst z80_29 (v := 0) (by decide) ?_
      refine R_iadd z80_30 ?_
      refine R_top (y := mSum A V r c (k + 1)) (by rw [mSum, if_neg g]) ?_
      refine R_istore z80_31 (loc' := [some (.ref 25), some (.int (nI c)), some (.int (mSum A V r c (k + 1))), some (.int (nI k))]) rfl rfl ?_
      refine R_iinc z80_32 (v := 1) (loc' := [some (.ref 25), some (.int (nI c)), some (.int (mSum A V r c (k + 1))), some (.int (nI (k + 1)))]) rfl rfl (by decide) (by rw [nI_1]; rfl) ?_
      refine R_goto z80_35 (tn := 4) rfl ?_
      exact ih (k + 1) (by omega)
theorem s80 {l : Launch} {E : jEnv} {A : Nat → Nat → Int32} {V : Nat → Int32} {O : Nat → Int64} {Q : jO → List jC → Prop} {c n r : Nat} (hW : mWf A V n r) (hc : c < 16) (hQ : Q (.inl (some (.int (mRoom A V r c)))) (hp A V O)) : GO l E 80 0 [some (.ref 25), some (.int (nI c)), none, none] [] (hp A V O) 0 0 Q := by
  refine R_iconst z80_0 (v := 0) (by decide) ?_
  refine R_istore z80_1 (loc' := [some (.ref 25), some (.int (nI c)), some (.int 0), none]) rfl rfl ?_
  refine R_iconst z80_2 (v := 0) (by decide) ?_
  refine R_istore z80_3 (loc' := [some (.ref 25), some (.int (nI c)), some (.int 0), some (.int 0)]) rfl rfl ?_
  exact s80_lp hW hc hQ 20 0 (by omega)
theorem s70 {l : Launch} {E : jEnv} {A : Nat → Nat → Int32} {V : Nat → Int32} {O : Nat → Int64} {Q : jO → List jC → Prop} {d : Int32} (hI : ¬ jrg d 0 1000 → Q (.inl none) (hp A (va_up V 6 1) O)) (hQ : jrg d 0 1000 → Q (.inl none) (hp A (va_up (va_up V 6 0) 8 d) O)) : GO l E 70 0 [some (.ref 25), some (.int d)] [] (hp A V O) 0 0 Q := by
  refine R_aload z70_0 rfl ?_
  refine R_iload z70_1 rfl ?_
  refine R_iconst z70_2 (v := 0) (by decide) ?_
  refine R_sipush z70_3 (v := 1000) (by decide) ?_
  refine R_cs z70_6 (k := 64) (kind := 1) (by decide +kernel) (by decide) rfl rfl (by decide +kernel) (Nat.le_of_ble_eq_true (by rfl)) rfl ?_
  refine s64 (fun g => jBk_ret rfl ⟨rfl, rfl⟩ ?_) (fun g => jBk_ret rfl ⟨rfl, rfl⟩ ?_)
  · refine R_if z70_9 (tn := 16) rfl (fun _ => ?_) (fun q => absurd (show ¬ (1 : Int32) = 0 by decide) q)
    refine R_iconst z70_16 (v := 0) (by decide) ?_
    refine R_iconst z70_17 (v := 0) (by decide) ?_
    refine R_iconst z70_18 (v := 0) (by decide) ?_
    refine R_iconst z70_19 (v := 0) (by decide) ?_
    refine R_cv z70_20 (k := 63) (by decide +kernel) rfl rfl (by decide +kernel) (Nat.le_of_ble_eq_true (by rfl)) rfl ⟨rfl, trivial⟩ ?_
    refine s63 (fun _ => jBk_ret rfl ⟨rfl, rfl⟩ ?_) (fun q => absurd rfl q)
    refine R_if z70_23 (tn := 27) rfl (fun _ => ?_) (fun q => absurd (show (0 : Int32) = 0 by decide) q)
    refine R_aload z70_27 rfl ?_
    refine R_iload z70_28 rfl ?_
    refine R_puti z70_29 (k := 4) (f := 2) (h' := hp A (va_up (va_up V 6 0) 8 d) O) (by decide +kernel) (by decide +kernel) rfl (Nat.le_of_ble_eq_true rfl) rfl ?_
    exact R_vret z70_32 ⟨Nat.zero_le _, Nat.zero_le _⟩ (hQ g)
  · refine R_if z70_9 (tn := 16) rfl (fun q => absurd (show ¬ (0 : Int32) = 0 from q) (by decide)) (fun _ => ?_)
    refine R_iconst z70_12 (v := 1) (by decide) ?_
    refine R_goto z70_13 (tn := 17) rfl ?_
    refine R_iconst z70_17 (v := 0) (by decide) ?_
    refine R_iconst z70_18 (v := 0) (by decide) ?_
    refine R_iconst z70_19 (v := 0) (by decide) ?_
    refine R_cv z70_20 (k := 63) (by decide +kernel) rfl rfl (by decide +kernel) (Nat.le_of_ble_eq_true (by rfl)) rfl ⟨rfl, trivial⟩ ?_
    refine s63 (fun q => absurd q (by decide)) (fun _ => jBk_ret rfl ⟨rfl, rfl⟩ ?_)
    refine R_if z70_23 (tn := 27) rfl (fun q => absurd (show (1 : Int32) = 0 from q) (by decide)) (fun _ => ?_)
    exact R_vret z70_26 ⟨Nat.zero_le _, Nat.zero_le _⟩ (hI g)
theorem s71 {l : Launch} {E : jEnv} {A : Nat → Nat → Int32} {V : Nat → Int32} {O : Nat → Int64} {Q : jO → List jC → Prop} {d : Int32} (hI : ¬ jrg d (V 7) 9999 → Q (.inl none) (hp A (va_up V 6 1) O)) (hQ : jrg d (V 7) 9999 → Q (.inl none) (hp A (va_up (va_up V 6 0) 7 d) O)) : GO l E 71 0 [some (.ref 25), some (.int d)] [] (hp A V O) 0 0 Q := by
  refine R_aload z71_0 rfl ?_
  refine R_iload z71_1 rfl ?_
  refine R_aload z71_2 rfl ?_
  refine R_get z71_3 (k := 4) (f := 1) (by decide +kernel) rfl rfl ?_
  refine R_icmp z71_6 (tn := 16) rfl (fun (h6 : (d : Int32) < (V 7)) => ?_) (fun (h6 : ¬ (d : Int32) < (V 7)) => ?_)
  · refine R_iconst z71_16 (v := 1) (by decide) ?_
    refine R_goto z71_17 (tn := 21) rfl ?_
    refine R_iconst z71_21 (v := 0) (by decide) ?_
    refine R_iconst z71_22 (v := 0) (by decide) ?_
    refine R_iconst z71_23 (v := 0) (by decide) ?_
    refine R_cv z71_24 (k := 63) (by decide +kernel) rfl rfl (by decide +kernel) (Nat.le_of_ble_eq_true (by rfl)) rfl ⟨rfl, trivial⟩ ?_
    refine s63 (fun q => absurd q (by decide)) (fun _ => jBk_ret rfl ⟨rfl, rfl⟩ ?_)
    refine R_if z71_27 (tn := 31) rfl (fun q => absurd (show (1 : Int32) = 0 from q) (by decide)) (fun _ => ?_)
    exact R_vret z71_30 ⟨Nat.zero_le _, Nat.zero_le _⟩ (hI (fun z => z.1 h6))
  · refine R_iload z71_9 rfl ?_
    refine R_sipush z71_10 (v := 9999) (by decide) ?_
    refine R_icmp z71_13 (tn := 20) rfl (fun (h13 : (d : Int32) ≤ 9999) => ?_) (fun (h13 : ¬ (d : Int32) ≤ 9999) => ?_)
    · refine R_iconst z71_20 (v := 0) (by decide) ?_
      refine R_iconst z71_21 (v := 0) (by decide) ?_
      refine R_iconst z71_22 (v := 0) (by decide) ?_
      refine R_iconst z71_23 (v := 0) (by decide) ?_
      refine R_cv z71_24 (k := 63) (by decide +kernel) rfl rfl (by decide +kernel) (Nat.le_of_ble_eq_true (by rfl)) rfl ⟨rfl, trivial⟩ ?_
      refine s63 (fun _ => jBk_ret rfl ⟨rfl, rfl⟩ ?_) (fun q => absurd rfl q)
      refine R_if z71_27 (tn := 31) rfl (fun _ => ?_) (fun q => absurd (show (0 : Int32) = 0 by decide) q)
      refine R_aload z71_31 rfl ?_
      refine R_iload z71_32 rfl ?_
      refine R_puti z71_33 (k := 4) (f := 1) (h' := hp A (va_up (va_up V 6 0) 7 d) O) (by decide +kernel) (by decide +kernel) rfl (Nat.le_of_ble_eq_true rfl) rfl ?_
      exact R_vret z71_36 ⟨Nat.zero_le _, Nat.zero_le _⟩ (hQ ⟨h6, h13⟩)
    · refine R_iconst z71_16 (v := 1) (by decide) ?_
      refine R_goto z71_17 (tn := 21) rfl ?_
      refine R_iconst z71_21 (v := 0) (by decide) ?_
      refine R_iconst z71_22 (v := 0) (by decide) ?_
      refine R_iconst z71_23 (v := 0) (by decide) ?_
      refine R_cv z71_24 (k := 63) (by decide +kernel) rfl rfl (by decide +kernel) (Nat.le_of_ble_eq_true (by rfl)) rfl ⟨rfl, trivial⟩ ?_
      refine s63 (fun q => absurd q (by decide)) (fun _ => jBk_ret rfl ⟨rfl, rfl⟩ ?_)
      refine R_if z71_27 (tn := 31) rfl (fun q => absurd (show (1 : Int32) = 0 from q) (by decide)) (fun _ => ?_)
      exact R_vret z71_30 ⟨Nat.zero_le _, Nat.zero_le _⟩ (hI (fun z => h13 z.2))
def mCrs (A : Nat → Nat → Int32) (n : Nat) (t p c : Int32) : Nat → Nat → Int32 := va_up (va_up (va_up (va_up A 26 (upd (A 26) n t)) 27 (upd (A 27) n p)) 28 (upd (A 28) n c)) 29 (upd (A 29) n 3)
theorem s67 {l : Launch} {E : jEnv} {A : Nat → Nat → Int32} {V : Nat → Int32} {O : Nat → Int64} {Q : jO → List jC → Prop} {t p c : Int32} { n r : Nat} (hW : mWf A V n r) (hI : ¬ (jrg t 1 2000 ∧ jrg p 0 100 ∧ jrg c 0 50) → Q (.inl (some (.int 0))) (hp A (va_up V 6 1) O)) (hU : (jrg t 1 2000 ∧ jrg p 0 100 ∧ jrg c 0 50) → n = 16 → Q (.inl (some (.int 0))) (hp A (va_up V 6 2) O)) (hQ : (jrg t 1 2000 ∧ jrg p 0 100 ∧ jrg c 0 50) → n < 16 → Q (.inl (some (.int (nI n)))) (hp (mCrs A n t p c) (va_up (va_up V 6 0) 9 (nI (n + 1))) O)) : GO l E 67 0 [some (.ref 25), some (.int t), some (.int p), some (.int c)] [] (hp A V O) 0 0 Q := by
  have hn16 := hW.2.1
  refine R_aload z67_0 rfl ?_
  refine R_iload z67_1 rfl ?_
  refine R_iconst z67_2 (v := 1) (by decide) ?_
  refine R_sipush z67_3 (v := 2000) (by decide) ?_
  refine R_cs z67_6 (k := 64) (kind := 1) (by decide +kernel) (by decide) rfl rfl (by decide +kernel) (Nat.le_of_ble_eq_true (by rfl)) rfl ?_
  refine s64 (fun g6 => jBk_ret rfl ⟨rfl, rfl⟩ ?_) (fun g6 => jBk_ret rfl ⟨rfl, rfl⟩ ?_)
  · refine R_if z67_9 (tn := 32) rfl (fun q => absurd (show (1 : Int32) = 0 from q) (by decide)) (fun _ => ?_)
    refine R_iload z67_12 rfl ?_
    refine R_iconst z67_13 (v := 0) (by decide) ?_
    refine R_bipush z67_14 (v := 100) (by decide) ?_
    refine R_cs z67_16 (k := 64) (kind := 1) (by decide +kernel) (by decide) rfl rfl (by decide +kernel) (Nat.le_of_ble_eq_true (by rfl)) rfl ?_
    refine s64 (fun g16 => jBk_ret rfl ⟨rfl, rfl⟩ ?_) (fun g16 => jBk_ret rfl ⟨rfl, rfl⟩ ?_)
    · refine R_if z67_19 (tn := 32) rfl (fun q => absurd (show (1 : Int32) = 0 from q) (by decide)) (fun _ => ?_)
      refine R_iload z67_22 rfl ?_
      refine R_iconst z67_23 (v := 0) (by decide) ?_
      refine R_bipush z67_24 (v := 50) (by decide) ?_
      refine R_cs z67_26 (k := 64) (kind := 1) (by decide +kernel) (by decide) rfl rfl (by decide +kernel) (Nat.le_of_ble_eq_true (by rfl)) rfl ?_
      refine s64 (fun g26 => jBk_ret rfl ⟨rfl, rfl⟩ ?_) (fun g26 => jBk_ret rfl ⟨rfl, rfl⟩ ?_)
      · refine R_if z67_29 (tn := 36) rfl (fun _ => ?_) (fun q => absurd (show ¬ (1 : Int32) = 0 by decide) q)
        refine R_iconst z67_36 (v := 0) (by decide) ?_
        refine R_aload z67_37 rfl ?_
        refine R_get z67_38 (k := 4) (f := 3) (by decide +kernel) rfl rfl ?_
        refine R_bipush z67_41 (v := 16) (by decide) ?_
        refine R_icmp z67_43 (tn := 50) rfl (fun (h43 : ¬ ((V 9) : Int32) = 16) => ?_) (fun (h43 : ¬ (¬ ((V 9) : Int32) = 16)) => ?_)
        · refine R_iconst z67_50 (v := 0) (by decide) ?_
          refine R_iconst z67_51 (v := 0) (by decide) ?_
          refine R_iconst z67_52 (v := 0) (by decide) ?_
          refine R_cv z67_53 (k := 63) (by decide +kernel) rfl rfl (by decide +kernel) (Nat.le_of_ble_eq_true (by rfl)) rfl ⟨rfl, trivial⟩ ?_
          refine s63 (fun _ => jBk_ret rfl ⟨rfl, rfl⟩ ?_) (fun q => absurd rfl q)
          refine R_if z67_56 (tn := 61) rfl (fun _ => ?_) (fun q => absurd (show (0 : Int32) = 0 by decide) q)
          have hlt : n < 16 := by
            have h9 : ¬ n = 16 := fun z => h43 (by rw [hW.1, z]; decide)
            omega
          refine R_aload z67_61 rfl ?_
          refine R_get z67_62 (k := 4) (f := 4) (by decide +kernel) rfl rfl ?_
          refine R_aload z67_65 rfl ?_
          refine R_get z67_66 (k := 4) (f := 3) (by decide +kernel) rfl rfl ?_
          refine R_iload z67_69 rfl ?_
          refine R_ist z67_70 (n := 16) (f := A 26) (h' := hp (va_up A 26 (upd (A 26) n t)) (va_up V 6 0) O) rfl (by rw [show (va_up V 6 0) 9 = nI n from hW.1]; exact nin hlt (by decide)) (by rw [show (va_up V 6 0) 9 = nI n from hW.1, ncl (by omega)]; rfl) ?_
          refine R_aload z67_71 rfl ?_
          refine R_get z67_72 (k := 4) (f := 5) (by decide +kernel) rfl rfl ?_
          refine R_aload z67_75 rfl ?_
          refine R_get z67_76 (k := 4) (f := 3) (by decide +kernel) rfl rfl ?_
          refine R_iload z67_79 rfl ?_
          refine R_ist z67_80 (n := 16) (f := (va_up A 26 (upd (A 26) n t)) 27) (h' := hp (va_up (va_up A 26 (upd (A 26) n t)) 27 (upd (A 27) n p)) (va_up V 6 0) O) rfl (by rw [show (va_up V 6 0) 9 = nI n from hW.1]; exact nin hlt (by decide)) (by rw [show (va_up V 6 0) 9 = nI n from hW.1, ncl (by omega)]; rfl) ?_
          refine R_aload z67_81 rfl ?_
          refine R_get z67_82 (k := 4) (f := 6) (by decide +kernel) rfl rfl ?_
          refine R_aload z67_85 rfl ?_
          refine R_get z67_86 (k := 4) (f := 3) (by decide +kernel) rfl rfl ?_
          refine R_iload z67_89 rfl ?_
          refine R_ist z67_90 (n := 16) (f := (va_up (va_up A 26 (upd (A 26) n t)) 27 (upd (A 27) n p)) 28) (h' := hp (va_up (va_up (va_up A 26 (upd (A 26) n t)) 27 (upd (A 27) n p)) 28 (upd (A 28) n c)) (va_up V 6 0) O) rfl (by rw [show (va_up V 6 0) 9 = nI n from hW.1]; exact nin hlt (by decide)) (by rw [show (va_up V 6 0) 9 = nI n from hW.1, ncl (by omega)]; rfl) ?_
          refine R_aload z67_91 rfl ?_
          refine R_get z67_92 (k := 4) (f := 7) (by decide +kernel) rfl rfl ?_
          refine R_aload z67_95 rfl ?_
          refine R_get z67_96 (k := 4) (f := 3) (by decide +kernel) rfl rfl ?_
          refine R_iconst z67_99 (v := 3) (by decide) ?_
          refine R_ist z67_100 (n := 16) (f := (va_up (va_up (va_up A 26 (upd (A 26) n t)) 27 (upd (A 27) n p)) 28 (upd (A 28) n c)) 29) (h' := hp (mCrs A n t p c) (va_up V 6 0) O) rfl (by rw [show (va_up V 6 0) 9 = nI n from hW.1]; exact nin hlt (by decide)) (by rw [show (va_up V 6 0) 9 = nI n from hW.1, ncl (by omega)]; rfl) ?_
          refine R_aload z67_101 rfl ?_
          refine R_dup z67_102 ?_
          refine R_get z67_103 (k := 4) (f := 3) (by decide +kernel) rfl rfl ?_
          refine R_iconst z67_106 (v := 1) (by decide) ?_
          refine R_iadd z67_107 ?_
          refine R_top (y := nI (n + 1)) (by rw [show (va_up V 6 0) 9 = nI n from hW.1, nI_1]) ?_
          refine R_puti z67_108 (k := 4) (f := 3) (h' := hp (mCrs A n t p c) (va_up (va_up V 6 0) 9 (nI (n + 1))) O) (by decide +kernel) (by decide +kernel) rfl (Nat.le_of_ble_eq_true rfl) rfl ?_
          refine R_aload z67_111 rfl ?_
          refine R_get z67_112 (k := 4) (f := 3) (by decide +kernel) rfl rfl ?_
          refine R_iconst z67_115 (v := 1) (by decide) ?_
          refine R_isub z67_116 ?_
          refine R_top (y := nI n) (by exact nI_pred n) ?_
          exact R_iret z67_117 (Or.inl (by decide +kernel)) ⟨Nat.zero_le _, Nat.zero_le _⟩ (hQ ⟨g6, g16, g26⟩ hlt)
        · refine R_iconst z67_46 (v := 1) (by decide) ?_
          refine R_goto z67_47 (tn := 51) rfl ?_
          refine R_iconst z67_51 (v := 0) (by decide) ?_
          refine R_iconst z67_52 (v := 0) (by decide) ?_
          refine R_cv z67_53 (k := 63) (by decide +kernel) rfl rfl (by decide +kernel) (Nat.le_of_ble_eq_true (by rfl)) rfl ⟨rfl, trivial⟩ ?_
          refine s63 (fun q => absurd q (by decide)) (fun _ => jBk_ret rfl ⟨rfl, rfl⟩ ?_)
          refine R_if z67_56 (tn := 61) rfl (fun q => absurd (show (1 : Int32) = 0 from q) (by decide)) (fun _ => ?_)
          refine R_iconst z67_59 (v := 0) (by decide) ?_
          exact R_iret z67_60 (Or.inl (by decide +kernel)) ⟨Nat.zero_le _, Nat.zero_le _⟩ (hU ⟨g6, g16, g26⟩ (by have h9 := Classical.not_not.mp h43; rw [hW.1, show (16 : Int32) = nI 16 by decide, nI_eq (by omega) (by omega)] at h9; exact h9))
      · refine R_if z67_29 (tn := 36) rfl (fun q => absurd (show ¬ (0 : Int32) = 0 from q) (by decide)) (fun _ => ?_)
        refine R_iconst z67_32 (v := 1) (by decide) ?_
        refine R_goto z67_33 (tn := 37) rfl ?_
        refine R_aload z67_37 rfl ?_
        refine R_get z67_38 (k := 4) (f := 3) (by decide +kernel) rfl rfl ?_
        refine R_bipush z67_41 (v := 16) (by decide) ?_
        refine R_icmp z67_43 (tn := 50) rfl (fun (h43 : ¬ ((V 9) : Int32) = 16) => ?_) (fun (h43 : ¬ (¬ ((V 9) : Int32) = 16)) => ?_)
        · refine R_iconst z67_50 (v := 0) (by decide) ?_
          refine R_iconst z67_51 (v := 0) (by decide) ?_
          refine R_iconst z67_52 (v := 0) (by decide) ?_
          refine R_cv z67_53 (k := 63) (by decide +kernel) rfl rfl (by decide +kernel) (Nat.le_of_ble_eq_true (by rfl)) rfl ⟨rfl, trivial⟩ ?_
          refine s63 (fun q => absurd q (by decide)) (fun _ => jBk_ret rfl ⟨rfl, rfl⟩ ?_)
          refine R_if z67_56 (tn := 61) rfl (fun q => absurd (show (1 : Int32) = 0 from q) (by decide)) (fun _ => ?_)
          refine R_iconst z67_59 (v := 0) (by decide) ?_
          exact R_iret z67_60 (Or.inl (by decide +kernel)) ⟨Nat.zero_le _, Nat.zero_le _⟩ (hI (fun z => g26 z.2.2))
        · refine R_iconst z67_46 (v := 1) (by decide) ?_
          refine R_goto z67_47 (tn := 51) rfl ?_
          refine R_iconst z67_51 (v := 0) (by decide) ?_
          refine R_iconst z67_52 (v := 0) (by decide) ?_
          refine R_cv z67_53 (k := 63) (by decide +kernel) rfl rfl (by decide +kernel) (Nat.le_of_ble_eq_true (by rfl)) rfl ⟨rfl, trivial⟩ ?_
          refine s63 (fun q => absurd q (by decide)) (fun _ => jBk_ret rfl ⟨rfl, rfl⟩ ?_)
          refine R_if z67_56 (tn := 61) rfl (fun q => absurd (show (1 : Int32) = 0 from q) (by decide)) (fun _ => ?_)
          refine R_iconst z67_59 (v := 0) (by decide) ?_
          exact R_iret z67_60 (Or.inl (by decide +kernel)) ⟨Nat.zero_le _, Nat.zero_le _⟩ (hI (fun z => g26 z.2.2))
    · refine R_if z67_19 (tn := 32) rfl (fun _ => ?_) (fun q => absurd (show (0 : Int32) = 0 by decide) q)
      refine R_iconst z67_32 (v := 1) (by decide) ?_
      refine R_goto z67_33 (tn := 37) rfl ?_
      refine R_aload z67_37 rfl ?_
      refine R_get z67_38 (k := 4) (f := 3) (by decide +kernel) rfl rfl ?_
      refine R_bipush z67_41 (v := 16) (by decide) ?_
      refine R_icmp z67_43 (tn := 50) rfl (fun (h43 : ¬ ((V 9) : Int32) = 16) => ?_) (fun (h43 : ¬ (¬ ((V 9) : Int32) = 16)) => ?_)
      · refine R_iconst z67_50 (v := 0) (by decide) ?_
        refine R_iconst z67_51 (v := 0) (by decide) ?_
        refine R_iconst z67_52 (v := 0) (by decide) ?_
        refine R_cv z67_53 (k := 63) (by decide +kernel) rfl rfl (by decide +kernel) (Nat.le_of_ble_eq_true (by rfl)) rfl ⟨rfl, trivial⟩ ?_
        refine s63 (fun q => absurd q (by decide)) (fun _ => jBk_ret rfl ⟨rfl, rfl⟩ ?_)
        refine R_if z67_56 (tn := 61) rfl (fun q => absurd (show (1 : Int32) = 0 from q) (by decide)) (fun _ => ?_)
        refine R_iconst z67_59 (v := 0) (by decide) ?_
        exact R_iret z67_60 (Or.inl (by decide +kernel)) ⟨Nat.zero_le _, Nat.zero_le _⟩ (hI (fun z => g16 z.2.1))
      · refine R_iconst z67_46 (v := 1) (by decide) ?_
        refine R_goto z67_47 (tn := 51) rfl ?_
        refine R_iconst z67_51 (v := 0) (by decide) ?_
        refine R_iconst z67_52 (v := 0) (by decide) ?_
        refine R_cv z67_53 (k := 63) (by decide +kernel) rfl rfl (by decide +kernel) (Nat.le_of_ble_eq_true (by rfl)) rfl ⟨rfl, trivial⟩ ?_
        refine s63 (fun q => absurd q (by decide)) (fun _ => jBk_ret rfl ⟨rfl, rfl⟩ ?_)
        refine R_if z67_56 (tn := 61) rfl (fun q => absurd (show (1 : Int32) = 0 from q) (by decide)) (fun _ => ?_)
        refine R_iconst z67_59 (v := 0) (by decide) ?_
        exact R_iret z67_60 (Or.inl (by decide +kernel)) ⟨Nat.zero_le _, Nat.zero_le _⟩ (hI (fun z => g16 z.2.1))
  · refine R_if z67_9 (tn := 32) rfl (fun _ => ?_) (fun q => absurd (show (0 : Int32) = 0 by decide) q)
    refine R_iconst z67_32 (v := 1) (by decide) ?_
    refine R_goto z67_33 (tn := 37) rfl ?_
    refine R_aload z67_37 rfl ?_
    refine R_get z67_38 (k := 4) (f := 3) (by decide +kernel) rfl rfl ?_
    refine R_bipush z67_41 (v := 16) (by decide) ?_
    refine R_icmp z67_43 (tn := 50) rfl (fun (h43 : ¬ ((V 9) : Int32) = 16) => ?_) (fun (h43 : ¬ (¬ ((V 9) : Int32) = 16)) => ?_)
    · refine R_iconst z67_50 (v := 0) (by decide) ?_
      refine R_iconst z67_51 (v := 0) (by decide) ?_
      refine R_iconst z67_52 (v := 0) (by decide) ?_
      refine R_cv z67_53 (k := 63) (by decide +kernel) rfl rfl (by decide +kernel) (Nat.le_of_ble_eq_true (by rfl)) rfl ⟨rfl, trivial⟩ ?_
      refine s63 (fun q => absurd q (by decide)) (fun _ => jBk_ret rfl ⟨rfl, rfl⟩ ?_)
      refine R_if z67_56 (tn := 61) rfl (fun q => absurd (show (1 : Int32) = 0 from q) (by decide)) (fun _ => ?_)
      refine R_iconst z67_59 (v := 0) (by decide) ?_
      exact R_iret z67_60 (Or.inl (by decide +kernel)) ⟨Nat.zero_le _, Nat.zero_le _⟩ (hI (fun z => g6 z.1))
    · refine R_iconst z67_46 (v := 1) (by decide) ?_
      refine R_goto z67_47 (tn := 51) rfl ?_
      refine R_iconst z67_51 (v := 0) (by decide) ?_
      refine R_iconst z67_52 (v := 0) (by decide) ?_
      refine R_cv z67_53 (k := 63) (by decide +kernel) rfl rfl (by decide +kernel) (Nat.le_of_ble_eq_true (by rfl)) rfl ⟨rfl, trivial⟩ ?_
      refine s63 (fun q => absurd q (by decide)) (fun _ => jBk_ret rfl ⟨rfl, rfl⟩ ?_)
      refine R_if z67_56 (tn := 61) rfl (fun q => absurd (show (1 : Int32) = 0 from q) (by decide)) (fun _ => ?_)
      refine R_iconst z67_59 (v := 0) (by decide) ?_
      exact R_iret z67_60 (Or.inl (by decide +kernel)) ⟨Nat.zero_le _, Nat.zero_le _⟩ (hI (fun z => g6 z.1))
end
section
theorem ncb {c : Int32} {c2 n : Nat} (e : c = nI c2) (h : c2 < n) (hn : n ≤ 16) : ¬ (c < 0 ∨ ¬ c < nI n) := by
  subst e
  rintro (z | z)
  · exact nI_pos (by omega) z
  · exact z ((nlt (by omega) (by omega)).mpr h)
theorem npb {p c : Int32} {p2 c2 n : Nat} (e1 : p = nI p2) (e2 : c = nI c2) (h1 : p2 < 20) (h2 : c2 < n) (hn : n ≤ 16) : ¬ (p < 0 ∨ ¬ p < 20 ∨ c < 0 ∨ ¬ c < nI n) := by
  rintro (z | z | z)
  · subst e1; exact nI_pos (by omega) z
  · subst e1; exact z (by rw [n20, nlt (by omega) (by omega)]; exact h1)
  · exact ncb e2 h2 hn z
theorem s87x {l : Launch} {E : jEnv} {A : Nat → Nat → Int32} {V : Nat → Int32} {O : Nat → Int64} {Q : jO → List jC → Prop} {p c : Int32} { n r : Nat} (hW : mWf A V n r) (hbad : (p < 0 ∨ ¬ p < 20 ∨ c < 0 ∨ ¬ c < nI n)) (hQ : Q (.inl (some (.int 0))) (hp A (va_up V 6 1) O)) : GO l E 87 0 [some (.ref 25), some (.int p), some (.int c), none] [] (hp A V O) 0 0 Q := by
  refine R_aload z87_0 rfl ?_
  refine R_aload z87_1 rfl ?_
  refine R_iload z87_2 rfl ?_
  refine R_iload z87_3 rfl ?_
  refine R_cv z87_4 (k := 66) (by decide +kernel) rfl rfl (by decide +kernel) (Nat.le_of_ble_eq_true (by rfl)) rfl ⟨rfl, trivial⟩ ?_
  refine s66 hW.1 hW.2.1 (fun p2 c2 e1 e2 l1 l2 => absurd hbad (npb e1 e2 l1 l2 hW.2.1)) (fun _ => jBk_ret rfl ⟨rfl, rfl⟩ ?_)
  refine R_if z87_7 (tn := 14) rfl (fun q => absurd (show ¬ (0 : Int32) = 0 from q) (by decide)) (fun _ => ?_)
  refine R_iconst z87_10 (v := 1) (by decide) ?_
  refine R_goto z87_11 (tn := 15) rfl ?_
  refine R_iconst z87_15 (v := 0) (by decide) ?_
  refine R_iconst z87_16 (v := 0) (by decide) ?_
  refine R_iconst z87_17 (v := 0) (by decide) ?_
  refine R_cv z87_18 (k := 63) (by decide +kernel) rfl rfl (by decide +kernel) (Nat.le_of_ble_eq_true (by rfl)) rfl ⟨rfl, trivial⟩ ?_
  refine s63 (fun q => absurd q (by decide)) (fun _ => jBk_ret rfl ⟨rfl, rfl⟩ ?_)
  refine R_if z87_21 (tn := 26) rfl (fun q => absurd (show (1 : Int32) = 0 from q) (by decide)) (fun _ => ?_)
  refine R_iconst z87_24 (v := 0) (by decide) ?_
  exact R_iret z87_25 (Or.inl (by decide +kernel)) ⟨Nat.zero_le _, Nat.zero_le _⟩ (hQ)
def mLapse (A : Nat → Nat → Int32) (V : Nat → Int32) (r p c : Nat) : Int32 := if 0 ≤ mPass A (nI p) (nI c) (V 7) r then mLap A (mPass A (nI p) (nI c) (V 7) r).toNatClampNeg (V 7) else -1
theorem ml_e {A : Nat → Nat → Int32} {V : Nat → Int32} {r p c x : Nat} (hr : r ≤ 300) (hx : x < r) (ex : mPass A (nI p) (nI c) (V 7) r = nI x) (h38 : (0 : Int32) ≤ mPass A (nI p) (nI c) (V 7) r) {P : Int32 → Prop} (h : P (mLapse A V r p c)) : P (mLap A x (V 7)) := by
  have e : mLapse A V r p c = mLap A x (V 7) := by rw [mLapse, if_pos h38, ex, ncl (by omega)]
  rw [e] at h
  exact h
theorem s87 {l : Launch} {E : jEnv} {A : Nat → Nat → Int32} {V : Nat → Int32} {O : Nat → Int64} {Q : jO → List jC → Prop} {p c n r : Nat} (hW : mWf A V n r) (hp2 : p < 20) (hcn : c < n) (hc : c < 16) (hQ : Q (.inl (some (.int (mLapse A V r p c)))) (hp A (va_up V 6 0) O)) : GO l E 87 0 [some (.ref 25), some (.int (nI p)), some (.int (nI c)), none] [] (hp A V O) 0 0 Q := by
  refine R_aload z87_0 rfl ?_
  refine R_aload z87_1 rfl ?_
  refine R_iload z87_2 rfl ?_
  refine R_iload z87_3 rfl ?_
  refine R_cv z87_4 (k := 66) (by decide +kernel) rfl rfl (by decide +kernel) (Nat.le_of_ble_eq_true (by rfl)) rfl ⟨rfl, trivial⟩ ?_
  refine s66 hW.1 hW.2.1 (fun _ _ _ _ _ _ => jBk_ret rfl ⟨rfl, rfl⟩ ?_) (fun g => absurd g (npb rfl rfl hp2 hcn hW.2.1))
  refine R_if z87_7 (tn := 14) rfl (fun _ => ?_) (fun q => absurd (show ¬ (1 : Int32) = 0 by decide) q)
  refine R_iconst z87_14 (v := 0) (by decide) ?_
  refine R_iconst z87_15 (v := 0) (by decide) ?_
  refine R_iconst z87_16 (v := 0) (by decide) ?_
  refine R_iconst z87_17 (v := 0) (by decide) ?_
  refine R_cv z87_18 (k := 63) (by decide +kernel) rfl rfl (by decide +kernel) (Nat.le_of_ble_eq_true (by rfl)) rfl ⟨rfl, trivial⟩ ?_
  refine s63 (fun _ => jBk_ret rfl ⟨rfl, rfl⟩ ?_) (fun q => absurd rfl q)
  refine R_if z87_21 (tn := 26) rfl (fun _ => ?_) (fun q => absurd (show (0 : Int32) = 0 by decide) q)
  refine R_aload z87_26 rfl ?_
  refine R_iload z87_27 rfl ?_
  refine R_iload z87_28 rfl ?_
  refine R_aload z87_29 rfl ?_
  refine R_get z87_30 (k := 4) (f := 1) (by decide +kernel) rfl rfl ?_
  refine R_cv z87_33 (k := 73) (by decide +kernel) rfl rfl (by decide +kernel) (Nat.le_of_ble_eq_true (by rfl)) rfl ⟨rfl, trivial⟩ ?_
  refine s73 (show mWf A (va_up V 6 0) n r from hW) (jBk_ret rfl ⟨rfl, rfl⟩ ?_)
  refine R_istore z87_36 (loc' := [some (.ref 25), some (.int (nI p)), some (.int (nI c)), some (.int (mPass A (nI p) (nI c) (V 7) r))]) rfl rfl ?_
  refine R_iload z87_37 rfl ?_
  refine R_if z87_38 (tn := 45) rfl (fun (h38 : (0 : Int32) ≤ (mPass A (nI p) (nI c) (V 7) r)) => ?_) (fun (h38 : ¬ (0 : Int32) ≤ (mPass A (nI p) (nI c) (V 7) r)) => ?_)
  · obtain ⟨x, hx, ex⟩ := mPass_nat hW.2.2.2.1 (Int32.not_lt.mpr h38)
    refine R_aload z87_45 rfl ?_
    refine R_iload z87_46 rfl ?_
    refine R_aload z87_47 rfl ?_
    refine R_get z87_48 (k := 4) (f := 1) (by decide +kernel) rfl rfl ?_
    refine R_cv z87_51 (k := 74) (by decide +kernel) rfl rfl (by decide +kernel) (Nat.le_of_ble_eq_true (by rfl)) rfl ⟨rfl, trivial⟩ ?_
    refine s74b (show mWf A (va_up V 6 0) n r from hW) hx ex (jBk_ret rfl ⟨rfl, rfl⟩ ?_)
    exact R_iret z87_54 (Or.inl (by decide +kernel)) ⟨Nat.zero_le _, Nat.zero_le _⟩ (ml_e hW.2.2.2.1 hx ex h38 (P := fun v => Q (.inl (some (.int v))) (hp A (va_up V 6 0) O)) hQ)
  · refine R_iconst z87_41 (v := (-1)) (by decide) ?_
    refine R_goto z87_42 (tn := 54) rfl ?_
    exact R_iret z87_54 (Or.inl (by decide +kernel)) ⟨Nat.zero_le _, Nat.zero_le _⟩ (by have e : mLapse A V r p c = -1 := if_neg h38; rw [e] at hQ; exact hQ)
theorem s88x {l : Launch} {E : jEnv} {A : Nat → Nat → Int32} {V : Nat → Int32} {O : Nat → Int64} {Q : jO → List jC → Prop} {p c : Int32} { n r : Nat} (hW : mWf A V n r) (hbad : (p < 0 ∨ ¬ p < 20 ∨ c < 0 ∨ ¬ c < nI n)) (hQ : Q (.inl (some (.int 0))) (hp A (va_up V 6 1) O)) : GO l E 88 0 [some (.ref 25), some (.int p), some (.int c)] [] (hp A V O) 0 0 Q := by
  refine R_aload z88_0 rfl ?_
  refine R_aload z88_1 rfl ?_
  refine R_iload z88_2 rfl ?_
  refine R_iload z88_3 rfl ?_
  refine R_cv z88_4 (k := 66) (by decide +kernel) rfl rfl (by decide +kernel) (Nat.le_of_ble_eq_true (by rfl)) rfl ⟨rfl, trivial⟩ ?_
  refine s66 hW.1 hW.2.1 (fun p2 c2 e1 e2 l1 l2 => absurd hbad (npb e1 e2 l1 l2 hW.2.1)) (fun _ => jBk_ret rfl ⟨rfl, rfl⟩ ?_)
  refine R_if z88_7 (tn := 14) rfl (fun q => absurd (show ¬ (0 : Int32) = 0 from q) (by decide)) (fun _ => ?_)
  refine R_iconst z88_10 (v := 1) (by decide) ?_
  refine R_goto z88_11 (tn := 15) rfl ?_
  refine R_iconst z88_15 (v := 0) (by decide) ?_
  refine R_iconst z88_16 (v := 0) (by decide) ?_
  refine R_iconst z88_17 (v := 0) (by decide) ?_
  refine R_cv z88_18 (k := 63) (by decide +kernel) rfl rfl (by decide +kernel) (Nat.le_of_ble_eq_true (by rfl)) rfl ⟨rfl, trivial⟩ ?_
  refine s63 (fun q => absurd q (by decide)) (fun _ => jBk_ret rfl ⟨rfl, rfl⟩ ?_)
  refine R_if z88_21 (tn := 26) rfl (fun q => absurd (show (1 : Int32) = 0 from q) (by decide)) (fun _ => ?_)
  refine R_iconst z88_24 (v := 0) (by decide) ?_
  exact R_iret z88_25 (Or.inl (by decide +kernel)) ⟨Nat.zero_le _, Nat.zero_le _⟩ (hQ)
theorem s88 {l : Launch} {E : jEnv} {A : Nat → Nat → Int32} {V : Nat → Int32} {O : Nat → Int64} {Q : jO → List jC → Prop} {p c n r : Nat} (hW : mWf A V n r) (hp2 : p < 20) (hcn : c < n) (hc : c < 16) (hQ : Q (.inl (some (.int (nI (mFails A (nI p) (nI c) r))))) (hp A (va_up V 6 0) O)) : GO l E 88 0 [some (.ref 25), some (.int (nI p)), some (.int (nI c))] [] (hp A V O) 0 0 Q := by
  refine R_aload z88_0 rfl ?_
  refine R_aload z88_1 rfl ?_
  refine R_iload z88_2 rfl ?_
  refine R_iload z88_3 rfl ?_
  refine R_cv z88_4 (k := 66) (by decide +kernel) rfl rfl (by decide +kernel) (Nat.le_of_ble_eq_true (by rfl)) rfl ⟨rfl, trivial⟩ ?_
  refine s66 hW.1 hW.2.1 (fun _ _ _ _ _ _ => jBk_ret rfl ⟨rfl, rfl⟩ ?_) (fun g => absurd g (npb rfl rfl hp2 hcn hW.2.1))
  refine R_if z88_7 (tn := 14) rfl (fun _ => ?_) (fun q => absurd (show ¬ (1 : Int32) = 0 by decide) q)
  refine R_iconst z88_14 (v := 0) (by decide) ?_
  refine R_iconst z88_15 (v := 0) (by decide) ?_
  refine R_iconst z88_16 (v := 0) (by decide) ?_
  refine R_iconst z88_17 (v := 0) (by decide) ?_
  refine R_cv z88_18 (k := 63) (by decide +kernel) rfl rfl (by decide +kernel) (Nat.le_of_ble_eq_true (by rfl)) rfl ⟨rfl, trivial⟩ ?_
  refine s63 (fun _ => jBk_ret rfl ⟨rfl, rfl⟩ ?_) (fun q => absurd rfl q)
  refine R_if z88_21 (tn := 26) rfl (fun _ => ?_) (fun q => absurd (show (0 : Int32) = 0 by decide) q)
  refine R_aload z88_26 rfl ?_
  refine R_iload z88_27 rfl ?_
  refine R_iload z88_28 rfl ?_
  refine R_cv z88_29 (k := 76) (by decide +kernel) rfl rfl (by decide +kernel) (Nat.le_of_ble_eq_true (by rfl)) rfl ⟨rfl, trivial⟩ ?_
  refine s76 (show mWf A (va_up V 6 0) n r from hW) (jBk_ret rfl ⟨rfl, rfl⟩ ?_)
  exact R_iret z88_32 (Or.inl (by decide +kernel)) ⟨Nat.zero_le _, Nat.zero_le _⟩ (hQ)
theorem s89x {l : Launch} {E : jEnv} {A : Nat → Nat → Int32} {V : Nat → Int32} {O : Nat → Int64} {Q : jO → List jC → Prop} {p c : Int32} { n r : Nat} (hW : mWf A V n r) (hbad : (p < 0 ∨ ¬ p < 20 ∨ c < 0 ∨ ¬ c < nI n)) (hQ : Q (.inl (some (.int 0))) (hp A (va_up V 6 1) O)) : GO l E 89 0 [some (.ref 25), some (.int p), some (.int c)] [] (hp A V O) 0 0 Q := by
  refine R_aload z89_0 rfl ?_
  refine R_aload z89_1 rfl ?_
  refine R_iload z89_2 rfl ?_
  refine R_iload z89_3 rfl ?_
  refine R_cv z89_4 (k := 66) (by decide +kernel) rfl rfl (by decide +kernel) (Nat.le_of_ble_eq_true (by rfl)) rfl ⟨rfl, trivial⟩ ?_
  refine s66 hW.1 hW.2.1 (fun p2 c2 e1 e2 l1 l2 => absurd hbad (npb e1 e2 l1 l2 hW.2.1)) (fun _ => jBk_ret rfl ⟨rfl, rfl⟩ ?_)
  refine R_if z89_7 (tn := 14) rfl (fun q => absurd (show ¬ (0 : Int32) = 0 from q) (by decide)) (fun _ => ?_)
  refine R_iconst z89_10 (v := 1) (by decide) ?_
  refine R_goto z89_11 (tn := 15) rfl ?_
  refine R_iconst z89_15 (v := 0) (by decide) ?_
  refine R_iconst z89_16 (v := 0) (by decide) ?_
  refine R_iconst z89_17 (v := 0) (by decide) ?_
  refine R_cv z89_18 (k := 63) (by decide +kernel) rfl rfl (by decide +kernel) (Nat.le_of_ble_eq_true (by rfl)) rfl ⟨rfl, trivial⟩ ?_
  refine s63 (fun q => absurd q (by decide)) (fun _ => jBk_ret rfl ⟨rfl, rfl⟩ ?_)
  refine R_if z89_21 (tn := 26) rfl (fun q => absurd (show (1 : Int32) = 0 from q) (by decide)) (fun _ => ?_)
  refine R_iconst z89_24 (v := 0) (by decide) ?_
  exact R_iret z89_25 (Or.inl (by decide +kernel)) ⟨Nat.zero_le _, Nat.zero_le _⟩ (hQ)
theorem s89 {l : Launch} {E : jEnv} {A : Nat → Nat → Int32} {V : Nat → Int32} {O : Nat → Int64} {Q : jO → List jC → Prop} {p c n r : Nat} (hW : mWf A V n r) (hp2 : p < 20) (hcn : c < n) (hc : c < 16) (hQ : Q (.inl (some (.int (nI (mWhy A V n r p c))))) (hp A (va_up V 6 0) O)) : GO l E 89 0 [some (.ref 25), some (.int (nI p)), some (.int (nI c))] [] (hp A V O) 0 0 Q := by
  refine R_aload z89_0 rfl ?_
  refine R_aload z89_1 rfl ?_
  refine R_iload z89_2 rfl ?_
  refine R_iload z89_3 rfl ?_
  refine R_cv z89_4 (k := 66) (by decide +kernel) rfl rfl (by decide +kernel) (Nat.le_of_ble_eq_true (by rfl)) rfl ⟨rfl, trivial⟩ ?_
  refine s66 hW.1 hW.2.1 (fun _ _ _ _ _ _ => jBk_ret rfl ⟨rfl, rfl⟩ ?_) (fun g => absurd g (npb rfl rfl hp2 hcn hW.2.1))
  refine R_if z89_7 (tn := 14) rfl (fun _ => ?_) (fun q => absurd (show ¬ (1 : Int32) = 0 by decide) q)
  refine R_iconst z89_14 (v := 0) (by decide) ?_
  refine R_iconst z89_15 (v := 0) (by decide) ?_
  refine R_iconst z89_16 (v := 0) (by decide) ?_
  refine R_iconst z89_17 (v := 0) (by decide) ?_
  refine R_cv z89_18 (k := 63) (by decide +kernel) rfl rfl (by decide +kernel) (Nat.le_of_ble_eq_true (by rfl)) rfl ⟨rfl, trivial⟩ ?_
  refine s63 (fun _ => jBk_ret rfl ⟨rfl, rfl⟩ ?_) (fun q => absurd rfl q)
  refine R_if z89_21 (tn := 26) rfl (fun _ => ?_) (fun q => absurd (show (0 : Int32) = 0 by decide) q)
  refine R_aload z89_26 rfl ?_
  refine R_iload z89_27 rfl ?_
  refine R_iload z89_28 rfl ?_
  refine R_cv z89_29 (k := 78) (by decide +kernel) rfl rfl (by decide +kernel) (Nat.le_of_ble_eq_true (by rfl)) rfl ⟨rfl, trivial⟩ ?_
  refine s78 (show mWf A (va_up V 6 0) n r from hW) hp2 hc (jBk_ret rfl ⟨rfl, rfl⟩ ?_)
  exact R_iret z89_32 (Or.inl (by decide +kernel)) ⟨Nat.zero_le _, Nat.zero_le _⟩ (hQ)
theorem mSum_6 {A : Nat → Nat → Int32} {V : Nat → Int32} {x : Int32} (r c : Nat) : ∀ k, mSum A (va_up V 6 x) r c k = mSum A V r c k
  | 0 => rfl
  | k + 1 => by rw [mSum, mSum, mSum_6 r c k]; rfl
theorem mToday_6 {A : Nat → Nat → Int32} {V : Nat → Int32} {x : Int32} (c : Nat) : ∀ k, mToday A (va_up V 6 x) c k = mToday A V c k
  | 0 => rfl
  | k + 1 => by rw [mToday, mToday, mToday_6 c k]; rfl
theorem mRoom_6 {A : Nat → Nat → Int32} {V : Nat → Int32} {x : Int32} (r c : Nat) : mRoom A (va_up V 6 x) r c = mRoom A V r c := by unfold mRoom; rw [mSum_6, mToday_6]
theorem s90x {l : Launch} {E : jEnv} {A : Nat → Nat → Int32} {V : Nat → Int32} {O : Nat → Int64} {Q : jO → List jC → Prop} {c : Int32} { n r : Nat} (hW : mWf A V n r) (hbad : (c < 0 ∨ ¬ c < nI n)) (hQ : Q (.inl (some (.int 0))) (hp A (va_up V 6 1) O)) : GO l E 90 0 [some (.ref 25), some (.int c)] [] (hp A V O) 0 0 Q := by
  refine R_aload z90_0 rfl ?_
  refine R_aload z90_1 rfl ?_
  refine R_iload z90_2 rfl ?_
  refine R_cv z90_3 (k := 65) (by decide +kernel) rfl rfl (by decide +kernel) (Nat.le_of_ble_eq_true (by rfl)) rfl ⟨rfl, trivial⟩ ?_
  refine s65 hW.1 hW.2.1 (fun c2 e2 l2 => absurd hbad (ncb e2 l2 hW.2.1)) (fun _ => jBk_ret rfl ⟨rfl, rfl⟩ ?_)
  refine R_if z90_6 (tn := 13) rfl (fun q => absurd (show ¬ (0 : Int32) = 0 from q) (by decide)) (fun _ => ?_)
  refine R_iconst z90_9 (v := 1) (by decide) ?_
  refine R_goto z90_10 (tn := 14) rfl ?_
  refine R_iconst z90_14 (v := 0) (by decide) ?_
  refine R_iconst z90_15 (v := 0) (by decide) ?_
  refine R_iconst z90_16 (v := 0) (by decide) ?_
  refine R_cv z90_17 (k := 63) (by decide +kernel) rfl rfl (by decide +kernel) (Nat.le_of_ble_eq_true (by rfl)) rfl ⟨rfl, trivial⟩ ?_
  refine s63 (fun q => absurd q (by decide)) (fun _ => jBk_ret rfl ⟨rfl, rfl⟩ ?_)
  refine R_if z90_20 (tn := 25) rfl (fun q => absurd (show (1 : Int32) = 0 from q) (by decide)) (fun _ => ?_)
  refine R_iconst z90_23 (v := 0) (by decide) ?_
  exact R_iret z90_24 (Or.inl (by decide +kernel)) ⟨Nat.zero_le _, Nat.zero_le _⟩ (hQ)
theorem s90 {l : Launch} {E : jEnv} {A : Nat → Nat → Int32} {V : Nat → Int32} {O : Nat → Int64} {Q : jO → List jC → Prop} {c n r : Nat} (hW : mWf A V n r) (hcn : c < n) (hc : c < 16) (hQ : Q (.inl (some (.int (mRoom A V r c)))) (hp A (va_up V 6 0) O)) : GO l E 90 0 [some (.ref 25), some (.int (nI c))] [] (hp A V O) 0 0 Q := by
  refine R_aload z90_0 rfl ?_
  refine R_aload z90_1 rfl ?_
  refine R_iload z90_2 rfl ?_
  refine R_cv z90_3 (k := 65) (by decide +kernel) rfl rfl (by decide +kernel) (Nat.le_of_ble_eq_true (by rfl)) rfl ⟨rfl, trivial⟩ ?_
  refine s65 hW.1 hW.2.1 (fun _ _ _ => jBk_ret rfl ⟨rfl, rfl⟩ ?_) (fun g => absurd g (ncb rfl hcn hW.2.1))
  refine R_if z90_6 (tn := 13) rfl (fun _ => ?_) (fun q => absurd (show ¬ (1 : Int32) = 0 by decide) q)
  refine R_iconst z90_13 (v := 0) (by decide) ?_
  refine R_iconst z90_14 (v := 0) (by decide) ?_
  refine R_iconst z90_15 (v := 0) (by decide) ?_
  refine R_iconst z90_16 (v := 0) (by decide) ?_
  refine R_cv z90_17 (k := 63) (by decide +kernel) rfl rfl (by decide +kernel) (Nat.le_of_ble_eq_true (by rfl)) rfl ⟨rfl, trivial⟩ ?_
  refine s63 (fun _ => jBk_ret rfl ⟨rfl, rfl⟩ ?_) (fun q => absurd rfl q)
  refine R_if z90_20 (tn := 25) rfl (fun _ => ?_) (fun q => absurd (show (0 : Int32) = 0 by decide) q)
  refine R_aload z90_25 rfl ?_
  refine R_iload z90_26 rfl ?_
  refine R_cv z90_27 (k := 80) (by decide +kernel) rfl rfl (by decide +kernel) (Nat.le_of_ble_eq_true (by rfl)) rfl ⟨rfl, trivial⟩ ?_
  refine s80 (show mWf A (va_up V 6 0) n r from hW) hc (jBk_ret rfl ⟨rfl, rfl⟩ ?_)
  exact R_iret z90_30 (Or.inl (by decide +kernel)) ⟨Nat.zero_le _, Nat.zero_le _⟩ (by rw [mRoom_6]; exact hQ)
theorem s72x {l : Launch} {E : jEnv} {A : Nat → Nat → Int32} {V : Nat → Int32} {O : Nat → Int64} {Q : jO → List jC → Prop} {c m : Int32} { n r : Nat} (hW : mWf A V n r) (hbad : (c < 0 ∨ ¬ c < nI n)) (hQ : Q (.inl none) (hp A (va_up V 6 1) O)) : GO l E 72 0 [some (.ref 25), some (.int c), some (.int m)] [] (hp A V O) 0 0 Q := by
  refine R_aload z72_0 rfl ?_
  refine R_aload z72_1 rfl ?_
  refine R_iload z72_2 rfl ?_
  refine R_cv z72_3 (k := 65) (by decide +kernel) rfl rfl (by decide +kernel) (Nat.le_of_ble_eq_true (by rfl)) rfl ⟨rfl, trivial⟩ ?_
  refine s65 hW.1 hW.2.1 (fun c2 e2 l2 => absurd hbad (ncb e2 l2 hW.2.1)) (fun _ => jBk_ret rfl ⟨rfl, rfl⟩ ?_)
  refine R_if z72_6 (tn := 13) rfl (fun q => absurd (show ¬ (0 : Int32) = 0 from q) (by decide)) (fun _ => ?_)
  refine R_iconst z72_9 (v := 1) (by decide) ?_
  refine R_goto z72_10 (tn := 14) rfl ?_
  refine R_iload z72_14 rfl ?_
  refine R_iconst z72_15 (v := 0) (by decide) ?_
  refine R_bipush z72_16 (v := 10) (by decide) ?_
  refine R_cs z72_18 (k := 64) (kind := 1) (by decide +kernel) (by decide) rfl rfl (by decide +kernel) (Nat.le_of_ble_eq_true (by rfl)) rfl ?_
  refine s64 (fun g => jBk_ret rfl ⟨rfl, rfl⟩ ?_) (fun g => jBk_ret rfl ⟨rfl, rfl⟩ ?_)
  · refine R_if z72_21 (tn := 28) rfl (fun _ => ?_) (fun q => absurd (show ¬ (1 : Int32) = 0 by decide) q)
    refine R_iconst z72_28 (v := 0) (by decide) ?_
    refine R_iconst z72_29 (v := 0) (by decide) ?_
    refine R_iconst z72_30 (v := 0) (by decide) ?_
    refine R_cv z72_31 (k := 63) (by decide +kernel) rfl rfl (by decide +kernel) (Nat.le_of_ble_eq_true (by rfl)) rfl ⟨rfl, trivial⟩ ?_
    refine s63 (fun q => absurd q (by decide)) (fun _ => jBk_ret rfl ⟨rfl, rfl⟩ ?_)
    refine R_if z72_34 (tn := 38) rfl (fun q => absurd (show (1 : Int32) = 0 from q) (by decide)) (fun _ => ?_)
    exact R_vret z72_37 ⟨Nat.zero_le _, Nat.zero_le _⟩ (hQ)
  · refine R_if z72_21 (tn := 28) rfl (fun q => absurd (show ¬ (0 : Int32) = 0 from q) (by decide)) (fun _ => ?_)
    refine R_iconst z72_24 (v := 1) (by decide) ?_
    refine R_goto z72_25 (tn := 29) rfl ?_
    refine R_iconst z72_29 (v := 0) (by decide) ?_
    refine R_iconst z72_30 (v := 0) (by decide) ?_
    refine R_cv z72_31 (k := 63) (by decide +kernel) rfl rfl (by decide +kernel) (Nat.le_of_ble_eq_true (by rfl)) rfl ⟨rfl, trivial⟩ ?_
    refine s63 (fun q => absurd q (by decide)) (fun _ => jBk_ret rfl ⟨rfl, rfl⟩ ?_)
    refine R_if z72_34 (tn := 38) rfl (fun q => absurd (show (1 : Int32) = 0 from q) (by decide)) (fun _ => ?_)
    exact R_vret z72_37 ⟨Nat.zero_le _, Nat.zero_le _⟩ (hQ)
theorem s72 {l : Launch} {E : jEnv} {A : Nat → Nat → Int32} {V : Nat → Int32} {O : Nat → Int64} {Q : jO → List jC → Prop} {m : Int32} {c n r : Nat} (hW : mWf A V n r) (hcn : c < n) (hc : c < 16) (hI : ¬ jrg m 0 10 → Q (.inl none) (hp A (va_up V 6 2) O)) (hQ : jrg m 0 10 → Q (.inl none) (hp (va_up A 29 (upd (A 29) c m)) (va_up V 6 0) O)) : GO l E 72 0 [some (.ref 25), some (.int (nI c)), some (.int m)] [] (hp A V O) 0 0 Q := by
  refine R_aload z72_0 rfl ?_
  refine R_aload z72_1 rfl ?_
  refine R_iload z72_2 rfl ?_
  refine R_cv z72_3 (k := 65) (by decide +kernel) rfl rfl (by decide +kernel) (Nat.le_of_ble_eq_true (by rfl)) rfl ⟨rfl, trivial⟩ ?_
  refine s65 hW.1 hW.2.1 (fun _ _ _ => jBk_ret rfl ⟨rfl, rfl⟩ ?_) (fun g => absurd g (ncb rfl hcn hW.2.1))
  refine R_if z72_6 (tn := 13) rfl (fun _ => ?_) (fun q => absurd (show ¬ (1 : Int32) = 0 by decide) q)
  refine R_iconst z72_13 (v := 0) (by decide) ?_
  refine R_iload z72_14 rfl ?_
  refine R_iconst z72_15 (v := 0) (by decide) ?_
  refine R_bipush z72_16 (v := 10) (by decide) ?_
  refine R_cs z72_18 (k := 64) (kind := 1) (by decide +kernel) (by decide) rfl rfl (by decide +kernel) (Nat.le_of_ble_eq_true (by rfl)) rfl ?_
  refine s64 (fun g => jBk_ret rfl ⟨rfl, rfl⟩ ?_) (fun g => jBk_ret rfl ⟨rfl, rfl⟩ ?_)
  · refine R_if z72_21 (tn := 28) rfl (fun _ => ?_) (fun q => absurd (show ¬ (1 : Int32) = 0 by decide) q)
    refine R_iconst z72_28 (v := 0) (by decide) ?_
    refine R_iconst z72_29 (v := 0) (by decide) ?_
    refine R_iconst z72_30 (v := 0) (by decide) ?_
    refine R_cv z72_31 (k := 63) (by decide +kernel) rfl rfl (by decide +kernel) (Nat.le_of_ble_eq_true (by rfl)) rfl ⟨rfl, trivial⟩ ?_
    refine s63 (fun _ => jBk_ret rfl ⟨rfl, rfl⟩ ?_) (fun q => absurd rfl q)
    refine R_if z72_34 (tn := 38) rfl (fun _ => ?_) (fun q => absurd (show (0 : Int32) = 0 by decide) q)
    refine R_aload z72_38 rfl ?_
    refine R_get z72_39 (k := 4) (f := 7) (by decide +kernel) rfl rfl ?_
    refine R_iload z72_42 rfl ?_
    refine R_iload z72_43 rfl ?_
    refine R_ist z72_44 (n := 16) (f := A 29) (h' := hp (va_up A 29 (upd (A 29) c m)) (va_up V 6 0) O) rfl (nin hc (by decide)) (by rw [ncl (by omega)]; rfl) ?_
    exact R_vret z72_45 ⟨Nat.zero_le _, Nat.zero_le _⟩ (hQ g)
  · refine R_if z72_21 (tn := 28) rfl (fun q => absurd (show ¬ (0 : Int32) = 0 from q) (by decide)) (fun _ => ?_)
    refine R_iconst z72_24 (v := 1) (by decide) ?_
    refine R_goto z72_25 (tn := 29) rfl ?_
    refine R_iconst z72_29 (v := 0) (by decide) ?_
    refine R_iconst z72_30 (v := 0) (by decide) ?_
    refine R_cv z72_31 (k := 63) (by decide +kernel) rfl rfl (by decide +kernel) (Nat.le_of_ble_eq_true (by rfl)) rfl ⟨rfl, trivial⟩ ?_
    refine s63 (fun q => absurd q (by decide)) (fun _ => jBk_ret rfl ⟨rfl, rfl⟩ ?_)
    refine R_if z72_34 (tn := 38) rfl (fun q => absurd (show (1 : Int32) = 0 from q) (by decide)) (fun _ => ?_)
    exact R_vret z72_37 ⟨Nat.zero_le _, Nat.zero_le _⟩ (hI g)
theorem s86x {l : Launch} {E : jEnv} {A : Nat → Nat → Int32} {V : Nat → Int32} {O : Nat → Int64} {Q : jO → List jC → Prop} {p c d : Int32} { n r : Nat} (hW : mWf A V n r) (hbad : (p < 0 ∨ ¬ p < 20 ∨ c < 0 ∨ ¬ c < nI n)) (hQ : Q (.inl (some (.int 0))) (hp A (va_up V 6 1) O)) : GO l E 86 0 [some (.ref 25), some (.int p), some (.int c), some (.int d)] [] (hp A V O) 0 0 Q := by
  refine R_aload z86_0 rfl ?_
  refine R_aload z86_1 rfl ?_
  refine R_iload z86_2 rfl ?_
  refine R_iload z86_3 rfl ?_
  refine R_cv z86_4 (k := 66) (by decide +kernel) rfl rfl (by decide +kernel) (Nat.le_of_ble_eq_true (by rfl)) rfl ⟨rfl, trivial⟩ ?_
  refine s66 hW.1 hW.2.1 (fun p2 c2 e1 e2 l1 l2 => absurd hbad (npb e1 e2 l1 l2 hW.2.1)) (fun _ => jBk_ret rfl ⟨rfl, rfl⟩ ?_)
  refine R_if z86_7 (tn := 14) rfl (fun q => absurd (show ¬ (0 : Int32) = 0 from q) (by decide)) (fun _ => ?_)
  refine R_iconst z86_10 (v := 1) (by decide) ?_
  refine R_goto z86_11 (tn := 15) rfl ?_
  refine R_iload z86_15 rfl ?_
  refine R_iconst z86_16 (v := 0) (by decide) ?_
  refine R_sipush z86_17 (v := 9999) (by decide) ?_
  refine R_cs z86_20 (k := 64) (kind := 1) (by decide +kernel) (by decide) rfl rfl (by decide +kernel) (Nat.le_of_ble_eq_true (by rfl)) rfl ?_
  refine s64 (fun g => jBk_ret rfl ⟨rfl, rfl⟩ ?_) (fun g => jBk_ret rfl ⟨rfl, rfl⟩ ?_)
  · refine R_if z86_23 (tn := 30) rfl (fun _ => ?_) (fun q => absurd (show ¬ (1 : Int32) = 0 by decide) q)
    refine R_iconst z86_30 (v := 0) (by decide) ?_
    refine R_iconst z86_31 (v := 0) (by decide) ?_
    refine R_iconst z86_32 (v := 0) (by decide) ?_
    refine R_cv z86_33 (k := 63) (by decide +kernel) rfl rfl (by decide +kernel) (Nat.le_of_ble_eq_true (by rfl)) rfl ⟨rfl, trivial⟩ ?_
    refine s63 (fun q => absurd q (by decide)) (fun _ => jBk_ret rfl ⟨rfl, rfl⟩ ?_)
    refine R_if z86_36 (tn := 41) rfl (fun q => absurd (show (1 : Int32) = 0 from q) (by decide)) (fun _ => ?_)
    refine R_iconst z86_39 (v := 0) (by decide) ?_
    exact R_iret z86_40 (Or.inr (by decide)) ⟨Nat.zero_le _, Nat.zero_le _⟩ (hQ)
  · refine R_if z86_23 (tn := 30) rfl (fun q => absurd (show ¬ (0 : Int32) = 0 from q) (by decide)) (fun _ => ?_)
    refine R_iconst z86_26 (v := 1) (by decide) ?_
    refine R_goto z86_27 (tn := 31) rfl ?_
    refine R_iconst z86_31 (v := 0) (by decide) ?_
    refine R_iconst z86_32 (v := 0) (by decide) ?_
    refine R_cv z86_33 (k := 63) (by decide +kernel) rfl rfl (by decide +kernel) (Nat.le_of_ble_eq_true (by rfl)) rfl ⟨rfl, trivial⟩ ?_
    refine s63 (fun q => absurd q (by decide)) (fun _ => jBk_ret rfl ⟨rfl, rfl⟩ ?_)
    refine R_if z86_36 (tn := 41) rfl (fun q => absurd (show (1 : Int32) = 0 from q) (by decide)) (fun _ => ?_)
    refine R_iconst z86_39 (v := 0) (by decide) ?_
    exact R_iret z86_40 (Or.inr (by decide)) ⟨Nat.zero_le _, Nat.zero_le _⟩ (hQ)
theorem s86 {l : Launch} {E : jEnv} {A : Nat → Nat → Int32} {V : Nat → Int32} {O : Nat → Int64} {Q : jO → List jC → Prop} {d : Int32} {p c n r : Nat} (hW : mWf A V n r) (hp2 : p < 20) (hcn : c < n) (hc : c < 16) (hI : ¬ jrg d 0 9999 → Q (.inl (some (.int 0))) (hp A (va_up V 6 2) O)) (h1 : jrg d 0 9999 → mHeld A r (nI p) (nI c) d → Q (.inl (some (.int 1))) (hp A (va_up V 6 0) O)) (h0 : jrg d 0 9999 → ¬ mHeld A r (nI p) (nI c) d → Q (.inl (some (.int 0))) (hp A (va_up V 6 0) O)) : GO l E 86 0 [some (.ref 25), some (.int (nI p)), some (.int (nI c)), some (.int d)] [] (hp A V O) 0 0 Q := by
  refine R_aload z86_0 rfl ?_
  refine R_aload z86_1 rfl ?_
  refine R_iload z86_2 rfl ?_
  refine R_iload z86_3 rfl ?_
  refine R_cv z86_4 (k := 66) (by decide +kernel) rfl rfl (by decide +kernel) (Nat.le_of_ble_eq_true (by rfl)) rfl ⟨rfl, trivial⟩ ?_
  refine s66 hW.1 hW.2.1 (fun _ _ _ _ _ _ => jBk_ret rfl ⟨rfl, rfl⟩ ?_) (fun g => absurd g (npb rfl rfl hp2 hcn hW.2.1))
  refine R_if z86_7 (tn := 14) rfl (fun _ => ?_) (fun q => absurd (show ¬ (1 : Int32) = 0 by decide) q)
  refine R_iconst z86_14 (v := 0) (by decide) ?_
  refine R_iload z86_15 rfl ?_
  refine R_iconst z86_16 (v := 0) (by decide) ?_
  refine R_sipush z86_17 (v := 9999) (by decide) ?_
  refine R_cs z86_20 (k := 64) (kind := 1) (by decide +kernel) (by decide) rfl rfl (by decide +kernel) (Nat.le_of_ble_eq_true (by rfl)) rfl ?_
  refine s64 (fun g => jBk_ret rfl ⟨rfl, rfl⟩ ?_) (fun g => jBk_ret rfl ⟨rfl, rfl⟩ ?_)
  · refine R_if z86_23 (tn := 30) rfl (fun _ => ?_) (fun q => absurd (show ¬ (1 : Int32) = 0 by decide) q)
    refine R_iconst z86_30 (v := 0) (by decide) ?_
    refine R_iconst z86_31 (v := 0) (by decide) ?_
    refine R_iconst z86_32 (v := 0) (by decide) ?_
    refine R_cv z86_33 (k := 63) (by decide +kernel) rfl rfl (by decide +kernel) (Nat.le_of_ble_eq_true (by rfl)) rfl ⟨rfl, trivial⟩ ?_
    refine s63 (fun _ => jBk_ret rfl ⟨rfl, rfl⟩ ?_) (fun q => absurd rfl q)
    refine R_if z86_36 (tn := 41) rfl (fun _ => ?_) (fun q => absurd (show (0 : Int32) = 0 by decide) q)
    refine R_aload z86_41 rfl ?_
    refine R_iload z86_42 rfl ?_
    refine R_iload z86_43 rfl ?_
    refine R_iload z86_44 rfl ?_
    refine R_cv z86_45 (k := 75) (by decide +kernel) rfl rfl (by decide +kernel) (Nat.le_of_ble_eq_true (by rfl)) rfl ⟨rfl, trivial⟩ ?_
    refine s75 (show mWf A (va_up V 6 0) n r from hW) (fun g2 => jBk_ret rfl ⟨rfl, rfl⟩ ?_) (fun g2 => jBk_ret rfl ⟨rfl, rfl⟩ ?_)
    · exact R_iret z86_48 (Or.inr (by decide)) ⟨Nat.zero_le _, Nat.zero_le _⟩ (h1 g g2)
    · exact R_iret z86_48 (Or.inr (by decide)) ⟨Nat.zero_le _, Nat.zero_le _⟩ (h0 g g2)
  · refine R_if z86_23 (tn := 30) rfl (fun q => absurd (show ¬ (0 : Int32) = 0 from q) (by decide)) (fun _ => ?_)
    refine R_iconst z86_26 (v := 1) (by decide) ?_
    refine R_goto z86_27 (tn := 31) rfl ?_
    refine R_iconst z86_31 (v := 0) (by decide) ?_
    refine R_iconst z86_32 (v := 0) (by decide) ?_
    refine R_cv z86_33 (k := 63) (by decide +kernel) rfl rfl (by decide +kernel) (Nat.le_of_ble_eq_true (by rfl)) rfl ⟨rfl, trivial⟩ ?_
    refine s63 (fun q => absurd q (by decide)) (fun _ => jBk_ret rfl ⟨rfl, rfl⟩ ?_)
    refine R_if z86_36 (tn := 41) rfl (fun q => absurd (show (1 : Int32) = 0 from q) (by decide)) (fun _ => ?_)
    refine R_iconst z86_39 (v := 0) (by decide) ?_
    exact R_iret z86_40 (Or.inr (by decide)) ⟨Nat.zero_le _, Nat.zero_le _⟩ (hI g)
theorem s84_0x {l : Launch} {E : jEnv} {A : Nat → Nat → Int32} {V : Nat → Int32} {O : Nat → Int64} {Q : jO → List jC → Prop} {p c : Int32} { n r : Nat} (hW : mWf A V n r) (hbad : (p < 0 ∨ ¬ p < 20 ∨ c < 0 ∨ ¬ c < nI n)) (hQ : Q (.inl none) (hp A (va_up V 6 1) O)) : GO l E 84 0 [some (.ref 25), some (.int p), some (.int c), some (.int 0), none] [] (hp A V O) 0 0 Q := by
  refine R_aload z84_0 rfl ?_
  refine R_iload z84_1 rfl ?_
  refine R_iload z84_2 rfl ?_
  refine R_cv z84_3 (k := 66) (by decide +kernel) rfl rfl (by decide +kernel) (Nat.le_of_ble_eq_true (by rfl)) rfl ⟨rfl, trivial⟩ ?_
  refine s66 hW.1 hW.2.1 (fun p2 c2 e1 e2 l1 l2 => absurd hbad (npb e1 e2 l1 l2 hW.2.1)) (fun _ => jBk_ret rfl ⟨rfl, rfl⟩ ?_)
  refine R_if z84_6 (tn := 13) rfl (fun q => absurd (show ¬ (0 : Int32) = 0 from q) (by decide)) (fun _ => ?_)
  refine R_iconst z84_9 (v := 1) (by decide) ?_
  refine R_goto z84_10 (tn := 14) rfl ?_
  refine R_istore z84_14 (loc' := [some (.ref 25), some (.int p), some (.int c), some (.int 0), some (.int 1)]) rfl rfl ?_
  refine R_aload z84_16 rfl ?_
  refine R_iload z84_17 rfl ?_
  refine R_iload z84_19 rfl ?_
  refine R_if z84_21 (tn := 60) rfl (fun _ => ?_) (fun q => absurd (show ¬ (1 : Int32) = 0 by decide) q)
  refine R_iconst z84_60 (v := 0) (by decide) ?_
  refine R_iconst z84_61 (v := 0) (by decide) ?_
  refine R_iconst z84_62 (v := 0) (by decide) ?_
  refine R_cv z84_63 (k := 63) (by decide +kernel) rfl rfl (by decide +kernel) (Nat.le_of_ble_eq_true (by rfl)) rfl ⟨rfl, trivial⟩ ?_
  refine s63 (fun q => absurd q (by decide)) (fun _ => jBk_ret rfl ⟨rfl, rfl⟩ ?_)
  refine R_if z84_66 (tn := 70) rfl (fun q => absurd (show (1 : Int32) = 0 from q) (by decide)) (fun _ => ?_)
  exact R_vret z84_69 ⟨Nat.zero_le _, Nat.zero_le _⟩ (hQ)
theorem s84_0 {l : Launch} {E : jEnv} {A : Nat → Nat → Int32} {V : Nat → Int32} {O : Nat → Int64} {Q : jO → List jC → Prop} {p c n r : Nat} (hW : mWf A V n r) (hp2 : p < 20) (hcn : c < n) (hc : c < 16) (hS : A 31 (16 * p + c) = 0 → Q (.inl none) (hp A (va_up V 6 2) O)) (hQ : ¬ A 31 (16 * p + c) = 0 → Q (.inl none) (hp (va_up A 31 (upd (A 31) (16 * p + c) 0)) (va_up V 6 0) O)) : GO l E 84 0 [some (.ref 25), some (.int (nI p)), some (.int (nI c)), some (.int 0), none] [] (hp A V O) 0 0 Q := by
  refine R_aload z84_0 rfl ?_
  refine R_iload z84_1 rfl ?_
  refine R_iload z84_2 rfl ?_
  refine R_cv z84_3 (k := 66) (by decide +kernel) rfl rfl (by decide +kernel) (Nat.le_of_ble_eq_true (by rfl)) rfl ⟨rfl, trivial⟩ ?_
  refine s66 hW.1 hW.2.1 (fun _ _ _ _ _ _ => jBk_ret rfl ⟨rfl, rfl⟩ ?_) (fun g => absurd g (npb rfl rfl hp2 hcn hW.2.1))
  refine R_if z84_6 (tn := 13) rfl (fun _ => ?_) (fun q => absurd (show ¬ (1 : Int32) = 0 by decide) q)
  refine R_iconst z84_13 (v := 0) (by decide) ?_
  refine R_istore z84_14 (loc' := [some (.ref 25), some (.int (nI p)), some (.int (nI c)), some (.int 0), some (.int 0)]) rfl rfl ?_
  refine R_aload z84_16 rfl ?_
  refine R_iload z84_17 rfl ?_
  refine R_iload z84_19 rfl ?_
  refine R_if z84_21 (tn := 60) rfl (fun q => absurd (show ¬ (0 : Int32) = 0 from q) (by decide)) (fun _ => ?_)
  refine R_aload z84_24 rfl ?_
  refine R_get z84_25 (k := 4) (f := 9) (by decide +kernel) rfl rfl ?_
  refine R_bipush z84_28 (v := 16) (by decide) ?_
  refine R_iload z84_30 rfl ?_
  refine R_imul z84_31 ?_
  refine R_iload z84_32 rfl ?_
  refine R_iadd z84_33 ?_
  refine R_top (y := nI (16 * p + c)) (mp16 p c) ?_
  refine R_zld z84_34 (n := 320) (f := A 31) (v := (A 31 (16 * p + c))) rfl (nin (by omega) (by decide)) (by rw [ncl (by omega)]) ?_
  refine R_iload z84_35 rfl ?_
  refine R_icmp z84_36 (tn := 56) rfl (fun (h36 : ((A 31 (16 * p + c)) : Int32) = 0) => ?_) (fun (h36 : ¬ ((A 31 (16 * p + c)) : Int32) = 0) => ?_)
  · refine R_iconst z84_56 (v := 1) (by decide) ?_
    refine R_goto z84_57 (tn := 61) rfl ?_
    refine R_iconst z84_61 (v := 0) (by decide) ?_
    refine R_iconst z84_62 (v := 0) (by decide) ?_
    refine R_cv z84_63 (k := 63) (by decide +kernel) rfl rfl (by decide +kernel) (Nat.le_of_ble_eq_true (by rfl)) rfl ⟨rfl, trivial⟩ ?_
    refine s63 (fun q => absurd q (by decide)) (fun _ => jBk_ret rfl ⟨rfl, rfl⟩ ?_)
    refine R_if z84_66 (tn := 70) rfl (fun q => absurd (show (1 : Int32) = 0 from q) (by decide)) (fun _ => ?_)
    exact R_vret z84_69 ⟨Nat.zero_le _, Nat.zero_le _⟩ (hS h36)
  · refine R_iload z84_39 rfl ?_
    refine R_if z84_40 (tn := 60) rfl (fun _ => ?_) (fun q => absurd (show (0 : Int32) = 0 by decide) q)
    refine R_iconst z84_60 (v := 0) (by decide) ?_
    refine R_iconst z84_61 (v := 0) (by decide) ?_
    refine R_iconst z84_62 (v := 0) (by decide) ?_
    refine R_cv z84_63 (k := 63) (by decide +kernel) rfl rfl (by decide +kernel) (Nat.le_of_ble_eq_true (by rfl)) rfl ⟨rfl, trivial⟩ ?_
    refine s63 (fun _ => jBk_ret rfl ⟨rfl, rfl⟩ ?_) (fun q => absurd rfl q)
    refine R_if z84_66 (tn := 70) rfl (fun _ => ?_) (fun q => absurd (show (0 : Int32) = 0 by decide) q)
    refine R_aload z84_70 rfl ?_
    refine R_get z84_71 (k := 4) (f := 9) (by decide +kernel) rfl rfl ?_
    refine R_bipush z84_74 (v := 16) (by decide) ?_
    refine R_iload z84_76 rfl ?_
    refine R_imul z84_77 ?_
    refine R_iload z84_78 rfl ?_
    refine R_iadd z84_79 ?_
    refine R_top (y := nI (16 * p + c)) (mp16 p c) ?_
    refine R_iload z84_80 rfl ?_
    refine R_zst z84_81 (n := 320) (f := A 31) (h' := hp (va_up A 31 (upd (A 31) (16 * p + c) 0)) (va_up V 6 0) O) rfl (nin (by omega) (by decide)) (by rw [ncl (by omega)]; rfl) ?_
    exact R_vret z84_82 ⟨Nat.zero_le _, Nat.zero_le _⟩ (hQ h36)
theorem s84_1x {l : Launch} {E : jEnv} {A : Nat → Nat → Int32} {V : Nat → Int32} {O : Nat → Int64} {Q : jO → List jC → Prop} {p c : Int32} { n r : Nat} (hW : mWf A V n r) (hbad : (p < 0 ∨ ¬ p < 20 ∨ c < 0 ∨ ¬ c < nI n)) (hQ : Q (.inl none) (hp A (va_up V 6 1) O)) : GO l E 84 0 [some (.ref 25), some (.int p), some (.int c), some (.int 1), none] [] (hp A V O) 0 0 Q := by
  refine R_aload z84_0 rfl ?_
  refine R_iload z84_1 rfl ?_
  refine R_iload z84_2 rfl ?_
  refine R_cv z84_3 (k := 66) (by decide +kernel) rfl rfl (by decide +kernel) (Nat.le_of_ble_eq_true (by rfl)) rfl ⟨rfl, trivial⟩ ?_
  refine s66 hW.1 hW.2.1 (fun p2 c2 e1 e2 l1 l2 => absurd hbad (npb e1 e2 l1 l2 hW.2.1)) (fun _ => jBk_ret rfl ⟨rfl, rfl⟩ ?_)
  refine R_if z84_6 (tn := 13) rfl (fun q => absurd (show ¬ (0 : Int32) = 0 from q) (by decide)) (fun _ => ?_)
  refine R_iconst z84_9 (v := 1) (by decide) ?_
  refine R_goto z84_10 (tn := 14) rfl ?_
  refine R_istore z84_14 (loc' := [some (.ref 25), some (.int p), some (.int c), some (.int 1), some (.int 1)]) rfl rfl ?_
  refine R_aload z84_16 rfl ?_
  refine R_iload z84_17 rfl ?_
  refine R_iload z84_19 rfl ?_
  refine R_if z84_21 (tn := 60) rfl (fun _ => ?_) (fun q => absurd (show ¬ (1 : Int32) = 0 by decide) q)
  refine R_iconst z84_60 (v := 0) (by decide) ?_
  refine R_iconst z84_61 (v := 0) (by decide) ?_
  refine R_iconst z84_62 (v := 0) (by decide) ?_
  refine R_cv z84_63 (k := 63) (by decide +kernel) rfl rfl (by decide +kernel) (Nat.le_of_ble_eq_true (by rfl)) rfl ⟨rfl, trivial⟩ ?_
  refine s63 (fun q => absurd q (by decide)) (fun _ => jBk_ret rfl ⟨rfl, rfl⟩ ?_)
  refine R_if z84_66 (tn := 70) rfl (fun q => absurd (show (1 : Int32) = 0 from q) (by decide)) (fun _ => ?_)
  exact R_vret z84_69 ⟨Nat.zero_le _, Nat.zero_le _⟩ (hQ)
theorem s84_1 {l : Launch} {E : jEnv} {A : Nat → Nat → Int32} {V : Nat → Int32} {O : Nat → Int64} {Q : jO → List jC → Prop} {p c n r : Nat} (hW : mWf A V n r) (hp2 : p < 20) (hcn : c < n) (hc : c < 16) (hS : (A 31 (16 * p + c) = 1 ∨ ¬ mHeld A r (nI p) (nI c) (V 7)) → Q (.inl none) (hp A (va_up V 6 2) O)) (hQ : ¬ A 31 (16 * p + c) = 1 → mHeld A r (nI p) (nI c) (V 7) → Q (.inl none) (hp (va_up A 31 (upd (A 31) (16 * p + c) 1)) (va_up V 6 0) O)) : GO l E 84 0 [some (.ref 25), some (.int (nI p)), some (.int (nI c)), some (.int 1), none] [] (hp A V O) 0 0 Q := by
  refine R_aload z84_0 rfl ?_
  refine R_iload z84_1 rfl ?_
  refine R_iload z84_2 rfl ?_
  refine R_cv z84_3 (k := 66) (by decide +kernel) rfl rfl (by decide +kernel) (Nat.le_of_ble_eq_true (by rfl)) rfl ⟨rfl, trivial⟩ ?_
  refine s66 hW.1 hW.2.1 (fun _ _ _ _ _ _ => jBk_ret rfl ⟨rfl, rfl⟩ ?_) (fun g => absurd g (npb rfl rfl hp2 hcn hW.2.1))
  refine R_if z84_6 (tn := 13) rfl (fun _ => ?_) (fun q => absurd (show ¬ (1 : Int32) = 0 by decide) q)
  refine R_iconst z84_13 (v := 0) (by decide) ?_
  refine R_istore z84_14 (loc' := [some (.ref 25), some (.int (nI p)), some (.int (nI c)), some (.int 1), some (.int 0)]) rfl rfl ?_
  refine R_aload z84_16 rfl ?_
  refine R_iload z84_17 rfl ?_
  refine R_iload z84_19 rfl ?_
  refine R_if z84_21 (tn := 60) rfl (fun q => absurd (show ¬ (0 : Int32) = 0 from q) (by decide)) (fun _ => ?_)
  refine R_aload z84_24 rfl ?_
  refine R_get z84_25 (k := 4) (f := 9) (by decide +kernel) rfl rfl ?_
  refine R_bipush z84_28 (v := 16) (by decide) ?_
  refine R_iload z84_30 rfl ?_
  refine R_imul z84_31 ?_
  refine R_iload z84_32 rfl ?_
  refine R_iadd z84_33 ?_
  refine R_top (y := nI (16 * p + c)) (mp16 p c) ?_
  refine R_zld z84_34 (n := 320) (f := A 31) (v := (A 31 (16 * p + c))) rfl (nin (by omega) (by decide)) (by rw [ncl (by omega)]) ?_
  refine R_iload z84_35 rfl ?_
  refine R_icmp z84_36 (tn := 56) rfl (fun (h36 : ((A 31 (16 * p + c)) : Int32) = 1) => ?_) (fun (h36 : ¬ ((A 31 (16 * p + c)) : Int32) = 1) => ?_)
  · refine R_iconst z84_56 (v := 1) (by decide) ?_
    refine R_goto z84_57 (tn := 61) rfl ?_
    refine R_iconst z84_61 (v := 0) (by decide) ?_
    refine R_iconst z84_62 (v := 0) (by decide) ?_
    refine R_cv z84_63 (k := 63) (by decide +kernel) rfl rfl (by decide +kernel) (Nat.le_of_ble_eq_true (by rfl)) rfl ⟨rfl, trivial⟩ ?_
    refine s63 (fun q => absurd q (by decide)) (fun _ => jBk_ret rfl ⟨rfl, rfl⟩ ?_)
    refine R_if z84_66 (tn := 70) rfl (fun q => absurd (show (1 : Int32) = 0 from q) (by decide)) (fun _ => ?_)
    exact R_vret z84_69 ⟨Nat.zero_le _, Nat.zero_le _⟩ (hS (Or.inl h36))
  · refine R_iload z84_39 rfl ?_
    refine R_if z84_40 (tn := 60) rfl (fun q => absurd (show (1 : Int32) = 0 from q) (by decide)) (fun _ => ?_)
    refine R_aload z84_43 rfl ?_
    refine R_iload z84_44 rfl ?_
    refine R_iload z84_45 rfl ?_
    refine R_aload z84_46 rfl ?_
    refine R_get z84_47 (k := 4) (f := 1) (by decide +kernel) rfl rfl ?_
    refine R_cv z84_50 (k := 75) (by decide +kernel) rfl rfl (by decide +kernel) (Nat.le_of_ble_eq_true (by rfl)) rfl ⟨rfl, trivial⟩ ?_
    refine s75 hW (fun g => jBk_ret rfl ⟨rfl, rfl⟩ ?_) (fun g => jBk_ret rfl ⟨rfl, rfl⟩ ?_)
    · refine R_if z84_53 (tn := 60) rfl (fun _ => ?_) (fun q => absurd (show ¬ (1 : Int32) = 0 by decide) q)
      refine R_iconst z84_60 (v := 0) (by decide) ?_
      refine R_iconst z84_61 (v := 0) (by decide) ?_
      refine R_iconst z84_62 (v := 0) (by decide) ?_
      refine R_cv z84_63 (k := 63) (by decide +kernel) rfl rfl (by decide +kernel) (Nat.le_of_ble_eq_true (by rfl)) rfl ⟨rfl, trivial⟩ ?_
      refine s63 (fun _ => jBk_ret rfl ⟨rfl, rfl⟩ ?_) (fun q => absurd rfl q)
      refine R_if z84_66 (tn := 70) rfl (fun _ => ?_) (fun q => absurd (show (0 : Int32) = 0 by decide) q)
      refine R_aload z84_70 rfl ?_
      refine R_get z84_71 (k := 4) (f := 9) (by decide +kernel) rfl rfl ?_
      refine R_bipush z84_74 (v := 16) (by decide) ?_
      refine R_iload z84_76 rfl ?_
      refine R_imul z84_77 ?_
      refine R_iload z84_78 rfl ?_
      refine R_iadd z84_79 ?_
      refine R_top (y := nI (16 * p + c)) (mp16 p c) ?_
      refine R_iload z84_80 rfl ?_
      refine R_zst z84_81 (n := 320) (f := A 31) (h' := hp (va_up A 31 (upd (A 31) (16 * p + c) 1)) (va_up V 6 0) O) rfl (nin (by omega) (by decide)) (by rw [ncl (by omega)]; rfl) ?_
      exact R_vret z84_82 ⟨Nat.zero_le _, Nat.zero_le _⟩ (hQ h36 g)
    · refine R_if z84_53 (tn := 60) rfl (fun q => absurd (show ¬ (0 : Int32) = 0 from q) (by decide)) (fun _ => ?_)
      refine R_iconst z84_56 (v := 1) (by decide) ?_
      refine R_goto z84_57 (tn := 61) rfl ?_
      refine R_iconst z84_61 (v := 0) (by decide) ?_
      refine R_iconst z84_62 (v := 0) (by decide) ?_
      refine R_cv z84_63 (k := 63) (by decide +kernel) rfl rfl (by decide +kernel) (Nat.le_of_ble_eq_true (by rfl)) rfl ⟨rfl, trivial⟩ ?_
      refine s63 (fun q => absurd q (by decide)) (fun _ => jBk_ret rfl ⟨rfl, rfl⟩ ?_)
      refine R_if z84_66 (tn := 70) rfl (fun q => absurd (show (1 : Int32) = 0 from q) (by decide)) (fun _ => ?_)
      exact R_vret z84_69 ⟨Nat.zero_le _, Nat.zero_le _⟩ (hS (Or.inr g))
theorem s82x {l : Launch} {E : jEnv} {A : Nat → Nat → Int32} {V : Nat → Int32} {O : Nat → Int64} {Q : jO → List jC → Prop} {p c mk : Int32} { n r : Nat} (hW : mWf A V n r) (hbad : (p < 0 ∨ ¬ p < 20 ∨ c < 0 ∨ ¬ c < nI n)) (hQ : Q (.inl (some (.int 0))) (hp A (va_up V 6 1) O)) : GO l E 82 0 [some (.ref 25), some (.int p), some (.int c), some (.int mk), none, none] [] (hp A V O) 0 0 Q := by
  refine R_aload z82_0 rfl ?_
  refine R_iload z82_1 rfl ?_
  refine R_iload z82_2 rfl ?_
  refine R_cv z82_3 (k := 66) (by decide +kernel) rfl rfl (by decide +kernel) (Nat.le_of_ble_eq_true (by rfl)) rfl ⟨rfl, trivial⟩ ?_
  refine s66 hW.1 hW.2.1 (fun p2 c2 e1 e2 l1 l2 => absurd hbad (npb e1 e2 l1 l2 hW.2.1)) (fun _ => jBk_ret rfl ⟨rfl, rfl⟩ ?_)
  refine R_if z82_6 (tn := 13) rfl (fun q => absurd (show ¬ (0 : Int32) = 0 from q) (by decide)) (fun _ => ?_)
  refine R_iconst z82_9 (v := 1) (by decide) ?_
  refine R_goto z82_10 (tn := 14) rfl ?_
  refine R_istore z82_14 (loc' := [some (.ref 25), some (.int p), some (.int c), some (.int mk), some (.int 1), none]) rfl rfl ?_
  refine R_iload z82_16 rfl ?_
  refine R_iconst z82_17 (v := 0) (by decide) ?_
  refine R_bipush z82_18 (v := 100) (by decide) ?_
  refine R_cs z82_20 (k := 64) (kind := 1) (by decide +kernel) (by decide) rfl rfl (by decide +kernel) (Nat.le_of_ble_eq_true (by rfl)) rfl ?_
  refine s64 (fun g => jBk_ret rfl ⟨rfl, rfl⟩ ?_) (fun g => jBk_ret rfl ⟨rfl, rfl⟩ ?_)
  · refine R_if z82_23 (tn := 30) rfl (fun _ => ?_) (fun q => absurd (show ¬ (1 : Int32) = 0 by decide) q)
    refine R_iconst z82_30 (v := 0) (by decide) ?_
    refine R_istore z82_31 (loc' := [some (.ref 25), some (.int p), some (.int c), some (.int mk), some (.int 1), some (.int 0)]) rfl rfl ?_
    refine R_aload z82_33 rfl ?_
    refine R_iload z82_34 rfl ?_
    refine R_iload z82_36 rfl ?_
    refine R_iload z82_38 rfl ?_
    refine R_if z82_40 (tn := 56) rfl (fun _ => ?_) (fun q => absurd (show ¬ (1 : Int32) = 0 by decide) q)
    refine R_iconst z82_56 (v := 0) (by decide) ?_
    refine R_iload z82_57 rfl ?_
    refine R_if z82_59 (tn := 70) rfl (fun _ => ?_) (fun q => absurd (show ¬ (1 : Int32) = 0 by decide) q)
    refine R_aload z82_70 rfl ?_
    refine R_get z82_71 (k := 4) (f := 10) (by decide +kernel) rfl rfl ?_
    refine R_sipush z82_74 (v := 300) (by decide) ?_
    refine R_icmp z82_77 (tn := 84) rfl (fun (h77 : ¬ ((V 10) : Int32) = 300) => ?_) (fun (h77 : ¬ (¬ ((V 10) : Int32) = 300)) => ?_)
    · refine R_iconst z82_84 (v := 0) (by decide) ?_
      refine R_cv z82_85 (k := 63) (by decide +kernel) rfl rfl (by decide +kernel) (Nat.le_of_ble_eq_true (by rfl)) rfl ⟨rfl, trivial⟩ ?_
      refine s63 (fun q => absurd q (by decide)) (fun _ => jBk_ret rfl ⟨rfl, rfl⟩ ?_)
      refine R_if z82_88 (tn := 93) rfl (fun q => absurd (show (1 : Int32) = 0 from q) (by decide)) (fun _ => ?_)
      refine R_iconst z82_91 (v := 0) (by decide) ?_
      exact R_iret z82_92 (Or.inl (by decide +kernel)) ⟨Nat.zero_le _, Nat.zero_le _⟩ (hQ)
    · refine R_iconst z82_80 (v := 1) (by decide) ?_
      refine R_goto z82_81 (tn := 85) rfl ?_
      refine R_cv z82_85 (k := 63) (by decide +kernel) rfl rfl (by decide +kernel) (Nat.le_of_ble_eq_true (by rfl)) rfl ⟨rfl, trivial⟩ ?_
      refine s63 (fun q => absurd q (by decide)) (fun _ => jBk_ret rfl ⟨rfl, rfl⟩ ?_)
      refine R_if z82_88 (tn := 93) rfl (fun q => absurd (show (1 : Int32) = 0 from q) (by decide)) (fun _ => ?_)
      refine R_iconst z82_91 (v := 0) (by decide) ?_
      exact R_iret z82_92 (Or.inl (by decide +kernel)) ⟨Nat.zero_le _, Nat.zero_le _⟩ (hQ)
  · refine R_if z82_23 (tn := 30) rfl (fun q => absurd (show ¬ (0 : Int32) = 0 from q) (by decide)) (fun _ => ?_)
    refine R_iconst z82_26 (v := 1) (by decide) ?_
    refine R_goto z82_27 (tn := 31) rfl ?_
    refine R_istore z82_31 (loc' := [some (.ref 25), some (.int p), some (.int c), some (.int mk), some (.int 1), some (.int 1)]) rfl rfl ?_
    refine R_aload z82_33 rfl ?_
    refine R_iload z82_34 rfl ?_
    refine R_iload z82_36 rfl ?_
    refine R_iload z82_38 rfl ?_
    refine R_if z82_40 (tn := 56) rfl (fun _ => ?_) (fun q => absurd (show ¬ (1 : Int32) = 0 by decide) q)
    refine R_iconst z82_56 (v := 0) (by decide) ?_
    refine R_iload z82_57 rfl ?_
    refine R_if z82_59 (tn := 70) rfl (fun _ => ?_) (fun q => absurd (show ¬ (1 : Int32) = 0 by decide) q)
    refine R_aload z82_70 rfl ?_
    refine R_get z82_71 (k := 4) (f := 10) (by decide +kernel) rfl rfl ?_
    refine R_sipush z82_74 (v := 300) (by decide) ?_
    refine R_icmp z82_77 (tn := 84) rfl (fun (h77 : ¬ ((V 10) : Int32) = 300) => ?_) (fun (h77 : ¬ (¬ ((V 10) : Int32) = 300)) => ?_)
    · refine R_iconst z82_84 (v := 0) (by decide) ?_
      refine R_cv z82_85 (k := 63) (by decide +kernel) rfl rfl (by decide +kernel) (Nat.le_of_ble_eq_true (by rfl)) rfl ⟨rfl, trivial⟩ ?_
      refine s63 (fun q => absurd q (by decide)) (fun _ => jBk_ret rfl ⟨rfl, rfl⟩ ?_)
      refine R_if z82_88 (tn := 93) rfl (fun q => absurd (show (1 : Int32) = 0 from q) (by decide)) (fun _ => ?_)
      refine R_iconst z82_91 (v := 0) (by decide) ?_
      exact R_iret z82_92 (Or.inl (by decide +kernel)) ⟨Nat.zero_le _, Nat.zero_le _⟩ (hQ)
    · refine R_iconst z82_80 (v := 1) (by decide) ?_
      refine R_goto z82_81 (tn := 85) rfl ?_
      refine R_cv z82_85 (k := 63) (by decide +kernel) rfl rfl (by decide +kernel) (Nat.le_of_ble_eq_true (by rfl)) rfl ⟨rfl, trivial⟩ ?_
      refine s63 (fun q => absurd q (by decide)) (fun _ => jBk_ret rfl ⟨rfl, rfl⟩ ?_)
      refine R_if z82_88 (tn := 93) rfl (fun q => absurd (show (1 : Int32) = 0 from q) (by decide)) (fun _ => ?_)
      refine R_iconst z82_91 (v := 0) (by decide) ?_
      exact R_iret z82_92 (Or.inl (by decide +kernel)) ⟨Nat.zero_le _, Nat.zero_le _⟩ (hQ)
theorem mWhy_lt {A : Nat → Nat → Int32} {V : Nat → Int32} {n r p c : Nat} : mWhy A V n r p c < 20000 := by
  unfold mWhy
  split
  · decide
  · split
    · decide
    · split <;> decide
theorem mWhy_p {A : Nat → Nat → Int32} {V : Nat → Int32} {n r p c : Nat} (h : ¬ nI (mWhy A V n r p c) ≤ 0) : ¬ mWhy A V n r p c = 0 := fun e => h (by rw [e]; decide)
theorem mWhy_z {A : Nat → Nat → Int32} {V : Nat → Int32} {n r p c : Nat} (h : nI (mWhy A V n r p c) ≤ 0) : mWhy A V n r p c = 0 := by
  rcases Nat.eq_zero_or_pos (mWhy A V n r p c) with e | e
  · exact e
  · exact absurd h (nI_nle e (Nat.lt_trans mWhy_lt (by decide)))
theorem r300 {V : Nat → Int32} {r : Nat} (h1 : V 10 = nI r) (h2 : r ≤ 300) (h : ¬ V 10 = 300) : r < 300 := by
  have h9 : ¬ r = 300 := fun z => h (by rw [h1, z]; decide)
  omega
theorem r300n {V : Nat → Int32} {r : Nat} (h1 : V 10 = nI r) (h2 : r ≤ 300) (h : V 10 = 300) : ¬ r < 300 := by
  rw [h1, show (300 : Int32) = nI 300 by decide, nI_eq (by omega) (by omega)] at h
  omega
theorem s82 {l : Launch} {E : jEnv} {A : Nat → Nat → Int32} {V : Nat → Int32} {O : Nat → Int64} {Q : jO → List jC → Prop} {mk : Int32} {p c n r : Nat} (hW : mWf A V n r) (hp2 : p < 20) (hcn : c < n) (hc : c < 16) (hI : ¬ jrg mk 0 100 → Q (.inl (some (.int 0))) (hp A (va_up V 6 2) O)) (hS : jrg mk 0 100 → ¬ mWhy A V n r p c = 0 → Q (.inl (some (.int 0))) (hp A (va_up V 6 3) O)) (hU : jrg mk 0 100 → mWhy A V n r p c = 0 → (mRoom A V r c = 0 ∨ ¬ r < 300) → Q (.inl (some (.int 0))) (hp A (va_up V 6 4) O)) (hQ : ∀ b : Int32, jrg mk 0 100 → mWhy A V n r p c = 0 → ¬ mRoom A V r c = 0 → r < 300 → (b = if mk < A 27 c then 0 else 1) → Q (.inl (some (.int (nI r)))) (hp (mAdd A V r (nI p) (nI c) b) (va_up (va_up V 6 0) 10 (nI (r + 1))) O)) : GO l E 82 0 [some (.ref 25), some (.int (nI p)), some (.int (nI c)), some (.int mk), none, none] [] (hp A V O) 0 0 Q := by
  refine R_aload z82_0 rfl ?_
  refine R_iload z82_1 rfl ?_
  refine R_iload z82_2 rfl ?_
  refine R_cv z82_3 (k := 66) (by decide +kernel) rfl rfl (by decide +kernel) (Nat.le_of_ble_eq_true (by rfl)) rfl ⟨rfl, trivial⟩ ?_
  refine s66 hW.1 hW.2.1 (fun _ _ _ _ _ _ => jBk_ret rfl ⟨rfl, rfl⟩ ?_) (fun g => absurd g (npb rfl rfl hp2 hcn hW.2.1))
  refine R_if z82_6 (tn := 13) rfl (fun _ => ?_) (fun q => absurd (show ¬ (1 : Int32) = 0 by decide) q)
  refine R_iconst z82_13 (v := 0) (by decide) ?_
  refine R_istore z82_14 (loc' := [some (.ref 25), some (.int (nI p)), some (.int (nI c)), some (.int mk), some (.int 0), none]) rfl rfl ?_
  refine R_iload z82_16 rfl ?_
  refine R_iconst z82_17 (v := 0) (by decide) ?_
  refine R_bipush z82_18 (v := 100) (by decide) ?_
  refine R_cs z82_20 (k := 64) (kind := 1) (by decide +kernel) (by decide) rfl rfl (by decide +kernel) (Nat.le_of_ble_eq_true (by rfl)) rfl ?_
  refine s64 (fun g => jBk_ret rfl ⟨rfl, rfl⟩ ?_) (fun g => jBk_ret rfl ⟨rfl, rfl⟩ ?_)
  · refine R_if z82_23 (tn := 30) rfl (fun _ => ?_) (fun q => absurd (show ¬ (1 : Int32) = 0 by decide) q)
    refine R_iconst z82_30 (v := 0) (by decide) ?_
    refine R_istore z82_31 (loc' := [some (.ref 25), some (.int (nI p)), some (.int (nI c)), some (.int mk), some (.int 0), some (.int 0)]) rfl rfl ?_
    refine R_aload z82_33 rfl ?_
    refine R_iload z82_34 rfl ?_
    refine R_iload z82_36 rfl ?_
    refine R_iload z82_38 rfl ?_
    refine R_if z82_40 (tn := 56) rfl (fun q => absurd (show ¬ (0 : Int32) = 0 from q) (by decide)) (fun _ => ?_)
    refine R_aload z82_43 rfl ?_
    refine R_iload z82_44 rfl ?_
    refine R_iload z82_45 rfl ?_
    refine R_cv z82_46 (k := 78) (by decide +kernel) rfl rfl (by decide +kernel) (Nat.le_of_ble_eq_true (by rfl)) rfl ⟨rfl, trivial⟩ ?_
    refine s78 hW hp2 hc (jBk_ret rfl ⟨rfl, rfl⟩ ?_)
    refine R_if z82_49 (tn := 56) rfl (fun (h49 : ((nI (mWhy A V n r p c)) : Int32) ≤ 0) => ?_) (fun (h49 : ¬ ((nI (mWhy A V n r p c)) : Int32) ≤ 0) => ?_)
    · refine R_iconst z82_56 (v := 0) (by decide) ?_
      refine R_iload z82_57 rfl ?_
      refine R_if z82_59 (tn := 70) rfl (fun q => absurd (show ¬ (0 : Int32) = 0 from q) (by decide)) (fun _ => ?_)
      refine R_aload z82_62 rfl ?_
      refine R_iload z82_63 rfl ?_
      refine R_cv z82_64 (k := 80) (by decide +kernel) rfl rfl (by decide +kernel) (Nat.le_of_ble_eq_true (by rfl)) rfl ⟨rfl, trivial⟩ ?_
      refine s80 hW hc (jBk_ret rfl ⟨rfl, rfl⟩ ?_)
      refine R_if z82_67 (tn := 80) rfl (fun (h67 : ((mRoom A V r c) : Int32) = 0) => ?_) (fun (h67 : ¬ ((mRoom A V r c) : Int32) = 0) => ?_)
      · refine R_iconst z82_80 (v := 1) (by decide) ?_
        refine R_goto z82_81 (tn := 85) rfl ?_
        refine R_cv z82_85 (k := 63) (by decide +kernel) rfl rfl (by decide +kernel) (Nat.le_of_ble_eq_true (by rfl)) rfl ⟨rfl, trivial⟩ ?_
        refine s63 (fun q => absurd q (by decide)) (fun _ => jBk_ret rfl ⟨rfl, rfl⟩ ?_)
        refine R_if z82_88 (tn := 93) rfl (fun q => absurd (show (1 : Int32) = 0 from q) (by decide)) (fun _ => ?_)
        refine R_iconst z82_91 (v := 0) (by decide) ?_
        exact R_iret z82_92 (Or.inl (by decide +kernel)) ⟨Nat.zero_le _, Nat.zero_le _⟩ (hU g (mWhy_z h49) (Or.inl h67))
      · refine R_aload z82_70 rfl ?_
        refine R_get z82_71 (k := 4) (f := 10) (by decide +kernel) rfl rfl ?_
        refine R_sipush z82_74 (v := 300) (by decide) ?_
        refine R_icmp z82_77 (tn := 84) rfl (fun (h77 : ¬ ((V 10) : Int32) = 300) => ?_) (fun (h77 : ¬ (¬ ((V 10) : Int32) = 300)) => ?_)
        · refine R_iconst z82_84 (v := 0) (by decide) ?_
          refine R_cv z82_85 (k := 63) (by decide +kernel) rfl rfl (by decide +kernel) (Nat.le_of_ble_eq_true (by rfl)) rfl ⟨rfl, trivial⟩ ?_
          refine s63 (fun _ => jBk_ret rfl ⟨rfl, rfl⟩ ?_) (fun q => absurd rfl q)
          refine R_if z82_88 (tn := 93) rfl (fun _ => ?_) (fun q => absurd (show (0 : Int32) = 0 by decide) q)
          refine R_aload z82_93 rfl ?_
          refine R_iload z82_94 rfl ?_
          refine R_iload z82_95 rfl ?_
          refine R_iload z82_96 rfl ?_
          refine R_aload z82_97 rfl ?_
          refine R_get z82_98 (k := 4) (f := 5) (by decide +kernel) rfl rfl ?_
          refine R_iload z82_101 rfl ?_
          refine R_ild z82_102 (n := 16) (f := A 27) (v := (A 27 c)) rfl (nin hc (by decide)) (by rw [ncl (by omega)]) ?_
          refine R_icmp z82_103 (tn := 110) rfl (fun (h103 : (mk : Int32) < (A 27 c)) => ?_) (fun (h103 : ¬ (mk : Int32) < (A 27 c)) => ?_)
          · refine R_iconst z82_110 (v := 0) (by decide) ?_
            refine R_cv z82_111 (k := 81) (by decide +kernel) rfl rfl (by decide +kernel) (Nat.le_of_ble_eq_true (by rfl)) rfl ⟨rfl, trivial⟩ ?_
            refine s81 (show (va_up V 6 0) 10 = nI r from hW.2.2.1) (r300 hW.2.2.1 hW.2.2.2.1 h77) (jBk_ret rfl ⟨rfl, rfl⟩ ?_)
            exact R_iret z82_114 (Or.inl (by decide +kernel)) ⟨Nat.zero_le _, Nat.zero_le _⟩ (hQ _ g (mWhy_z h49) h67 (r300 hW.2.2.1 hW.2.2.2.1 h77) (if_pos h103).symm)
          · refine R_iconst z82_106 (v := 1) (by decide) ?_
            refine R_goto z82_107 (tn := 111) rfl ?_
            refine R_cv z82_111 (k := 81) (by decide +kernel) rfl rfl (by decide +kernel) (Nat.le_of_ble_eq_true (by rfl)) rfl ⟨rfl, trivial⟩ ?_
            refine s81 (show (va_up V 6 0) 10 = nI r from hW.2.2.1) (r300 hW.2.2.1 hW.2.2.2.1 h77) (jBk_ret rfl ⟨rfl, rfl⟩ ?_)
            exact R_iret z82_114 (Or.inl (by decide +kernel)) ⟨Nat.zero_le _, Nat.zero_le _⟩ (hQ _ g (mWhy_z h49) h67 (r300 hW.2.2.1 hW.2.2.2.1 h77) (if_neg h103).symm)
        · refine R_iconst z82_80 (v := 1) (by decide) ?_
          refine R_goto z82_81 (tn := 85) rfl ?_
          refine R_cv z82_85 (k := 63) (by decide +kernel) rfl rfl (by decide +kernel) (Nat.le_of_ble_eq_true (by rfl)) rfl ⟨rfl, trivial⟩ ?_
          refine s63 (fun q => absurd q (by decide)) (fun _ => jBk_ret rfl ⟨rfl, rfl⟩ ?_)
          refine R_if z82_88 (tn := 93) rfl (fun q => absurd (show (1 : Int32) = 0 from q) (by decide)) (fun _ => ?_)
          refine R_iconst z82_91 (v := 0) (by decide) ?_
          exact R_iret z82_92 (Or.inl (by decide +kernel)) ⟨Nat.zero_le _, Nat.zero_le _⟩ (hU g (mWhy_z h49) (Or.inr (r300n hW.2.2.1 hW.2.2.2.1 (Classical.not_not.mp h77))))
    · refine R_iconst z82_52 (v := 1) (by decide) ?_
      refine R_goto z82_53 (tn := 57) rfl ?_
      refine R_iload z82_57 rfl ?_
      refine R_if z82_59 (tn := 70) rfl (fun q => absurd (show ¬ (0 : Int32) = 0 from q) (by decide)) (fun _ => ?_)
      refine R_aload z82_62 rfl ?_
      refine R_iload z82_63 rfl ?_
      refine R_cv z82_64 (k := 80) (by decide +kernel) rfl rfl (by decide +kernel) (Nat.le_of_ble_eq_true (by rfl)) rfl ⟨rfl, trivial⟩ ?_
      refine s80 hW hc (jBk_ret rfl ⟨rfl, rfl⟩ ?_)
      refine R_if z82_67 (tn := 80) rfl (fun (h67 : ((mRoom A V r c) : Int32) = 0) => ?_) (fun (h67 : ¬ ((mRoom A V r c) : Int32) = 0) => ?_)
      · refine R_iconst z82_80 (v := 1) (by decide) ?_
        refine R_goto z82_81 (tn := 85) rfl ?_
        refine R_cv z82_85 (k := 63) (by decide +kernel) rfl rfl (by decide +kernel) (Nat.le_of_ble_eq_true (by rfl)) rfl ⟨rfl, trivial⟩ ?_
        refine s63 (fun q => absurd q (by decide)) (fun _ => jBk_ret rfl ⟨rfl, rfl⟩ ?_)
        refine R_if z82_88 (tn := 93) rfl (fun q => absurd (show (1 : Int32) = 0 from q) (by decide)) (fun _ => ?_)
        refine R_iconst z82_91 (v := 0) (by decide) ?_
        exact R_iret z82_92 (Or.inl (by decide +kernel)) ⟨Nat.zero_le _, Nat.zero_le _⟩ (hS g (mWhy_p h49))
      · refine R_aload z82_70 rfl ?_
        refine R_get z82_71 (k := 4) (f := 10) (by decide +kernel) rfl rfl ?_
        refine R_sipush z82_74 (v := 300) (by decide) ?_
        refine R_icmp z82_77 (tn := 84) rfl (fun (h77 : ¬ ((V 10) : Int32) = 300) => ?_) (fun (h77 : ¬ (¬ ((V 10) : Int32) = 300)) => ?_)
        · refine R_iconst z82_84 (v := 0) (by decide) ?_
          refine R_cv z82_85 (k := 63) (by decide +kernel) rfl rfl (by decide +kernel) (Nat.le_of_ble_eq_true (by rfl)) rfl ⟨rfl, trivial⟩ ?_
          refine s63 (fun q => absurd q (by decide)) (fun _ => jBk_ret rfl ⟨rfl, rfl⟩ ?_)
          refine R_if z82_88 (tn := 93) rfl (fun q => absurd (show (1 : Int32) = 0 from q) (by decide)) (fun _ => ?_)
          refine R_iconst z82_91 (v := 0) (by decide) ?_
          exact R_iret z82_92 (Or.inl (by decide +kernel)) ⟨Nat.zero_le _, Nat.zero_le _⟩ (hS g (mWhy_p h49))
        · refine R_iconst z82_80 (v := 1) (by decide) ?_
          refine R_goto z82_81 (tn := 85) rfl ?_
          refine R_cv z82_85 (k := 63) (by decide +kernel) rfl rfl (by decide +kernel) (Nat.le_of_ble_eq_true (by rfl)) rfl ⟨rfl, trivial⟩ ?_
          refine s63 (fun q => absurd q (by decide)) (fun _ => jBk_ret rfl ⟨rfl, rfl⟩ ?_)
          refine R_if z82_88 (tn := 93) rfl (fun q => absurd (show (1 : Int32) = 0 from q) (by decide)) (fun _ => ?_)
          refine R_iconst z82_91 (v := 0) (by decide) ?_
          exact R_iret z82_92 (Or.inl (by decide +kernel)) ⟨Nat.zero_le _, Nat.zero_le _⟩ (hS g (mWhy_p h49))
  · refine R_if z82_23 (tn := 30) rfl (fun q => absurd (show ¬ (0 : Int32) = 0 from q) (by decide)) (fun _ => ?_)
    refine R_iconst z82_26 (v := 1) (by decide) ?_
    refine R_goto z82_27 (tn := 31) rfl ?_
    refine R_istore z82_31 (loc' := [some (.ref 25), some (.int (nI p)), some (.int (nI c)), some (.int mk), some (.int 0), some (.int 1)]) rfl rfl ?_
    refine R_aload z82_33 rfl ?_
    refine R_iload z82_34 rfl ?_
    refine R_iload z82_36 rfl ?_
    refine R_iload z82_38 rfl ?_
    refine R_if z82_40 (tn := 56) rfl (fun q => absurd (show ¬ (0 : Int32) = 0 from q) (by decide)) (fun _ => ?_)
    refine R_aload z82_43 rfl ?_
    refine R_iload z82_44 rfl ?_
    refine R_iload z82_45 rfl ?_
    refine R_cv z82_46 (k := 78) (by decide +kernel) rfl rfl (by decide +kernel) (Nat.le_of_ble_eq_true (by rfl)) rfl ⟨rfl, trivial⟩ ?_
    refine s78 hW hp2 hc (jBk_ret rfl ⟨rfl, rfl⟩ ?_)
    refine R_if z82_49 (tn := 56) rfl (fun (h49 : ((nI (mWhy A V n r p c)) : Int32) ≤ 0) => ?_) (fun (h49 : ¬ ((nI (mWhy A V n r p c)) : Int32) ≤ 0) => ?_)
    · refine R_iconst z82_56 (v := 0) (by decide) ?_
      refine R_iload z82_57 rfl ?_
      refine R_if z82_59 (tn := 70) rfl (fun q => absurd (show ¬ (0 : Int32) = 0 from q) (by decide)) (fun _ => ?_)
      refine R_aload z82_62 rfl ?_
      refine R_iload z82_63 rfl ?_
      refine R_cv z82_64 (k := 80) (by decide +kernel) rfl rfl (by decide +kernel) (Nat.le_of_ble_eq_true (by rfl)) rfl ⟨rfl, trivial⟩ ?_
      refine s80 hW hc (jBk_ret rfl ⟨rfl, rfl⟩ ?_)
      refine R_if z82_67 (tn := 80) rfl (fun (h67 : ((mRoom A V r c) : Int32) = 0) => ?_) (fun (h67 : ¬ ((mRoom A V r c) : Int32) = 0) => ?_)
      · refine R_iconst z82_80 (v := 1) (by decide) ?_
        refine R_goto z82_81 (tn := 85) rfl ?_
        refine R_cv z82_85 (k := 63) (by decide +kernel) rfl rfl (by decide +kernel) (Nat.le_of_ble_eq_true (by rfl)) rfl ⟨rfl, trivial⟩ ?_
        refine s63 (fun q => absurd q (by decide)) (fun _ => jBk_ret rfl ⟨rfl, rfl⟩ ?_)
        refine R_if z82_88 (tn := 93) rfl (fun q => absurd (show (1 : Int32) = 0 from q) (by decide)) (fun _ => ?_)
        refine R_iconst z82_91 (v := 0) (by decide) ?_
        exact R_iret z82_92 (Or.inl (by decide +kernel)) ⟨Nat.zero_le _, Nat.zero_le _⟩ (hI g)
      · refine R_aload z82_70 rfl ?_
        refine R_get z82_71 (k := 4) (f := 10) (by decide +kernel) rfl rfl ?_
        refine R_sipush z82_74 (v := 300) (by decide) ?_
        refine R_icmp z82_77 (tn := 84) rfl (fun (h77 : ¬ ((V 10) : Int32) = 300) => ?_) (fun (h77 : ¬ (¬ ((V 10) : Int32) = 300)) => ?_)
        · refine R_iconst z82_84 (v := 0) (by decide) ?_
          refine R_cv z82_85 (k := 63) (by decide +kernel) rfl rfl (by decide +kernel) (Nat.le_of_ble_eq_true (by rfl)) rfl ⟨rfl, trivial⟩ ?_
          refine s63 (fun q => absurd q (by decide)) (fun _ => jBk_ret rfl ⟨rfl, rfl⟩ ?_)
          refine R_if z82_88 (tn := 93) rfl (fun q => absurd (show (1 : Int32) = 0 from q) (by decide)) (fun _ => ?_)
          refine R_iconst z82_91 (v := 0) (by decide) ?_
          exact R_iret z82_92 (Or.inl (by decide +kernel)) ⟨Nat.zero_le _, Nat.zero_le _⟩ (hI g)
        · refine R_iconst z82_80 (v := 1) (by decide) ?_
          refine R_goto z82_81 (tn := 85) rfl ?_
          refine R_cv z82_85 (k := 63) (by decide +kernel) rfl rfl (by decide +kernel) (Nat.le_of_ble_eq_true (by rfl)) rfl ⟨rfl, trivial⟩ ?_
          refine s63 (fun q => absurd q (by decide)) (fun _ => jBk_ret rfl ⟨rfl, rfl⟩ ?_)
          refine R_if z82_88 (tn := 93) rfl (fun q => absurd (show (1 : Int32) = 0 from q) (by decide)) (fun _ => ?_)
          refine R_iconst z82_91 (v := 0) (by decide) ?_
          exact R_iret z82_92 (Or.inl (by decide +kernel)) ⟨Nat.zero_le _, Nat.zero_le _⟩ (hI g)
    · refine R_iconst z82_52 (v := 1) (by decide) ?_
      refine R_goto z82_53 (tn := 57) rfl ?_
      refine R_iload z82_57 rfl ?_
      refine R_if z82_59 (tn := 70) rfl (fun q => absurd (show ¬ (0 : Int32) = 0 from q) (by decide)) (fun _ => ?_)
      refine R_aload z82_62 rfl ?_
      refine R_iload z82_63 rfl ?_
      refine R_cv z82_64 (k := 80) (by decide +kernel) rfl rfl (by decide +kernel) (Nat.le_of_ble_eq_true (by rfl)) rfl ⟨rfl, trivial⟩ ?_
      refine s80 hW hc (jBk_ret rfl ⟨rfl, rfl⟩ ?_)
      refine R_if z82_67 (tn := 80) rfl (fun (h67 : ((mRoom A V r c) : Int32) = 0) => ?_) (fun (h67 : ¬ ((mRoom A V r c) : Int32) = 0) => ?_)
      · refine R_iconst z82_80 (v := 1) (by decide) ?_
        refine R_goto z82_81 (tn := 85) rfl ?_
        refine R_cv z82_85 (k := 63) (by decide +kernel) rfl rfl (by decide +kernel) (Nat.le_of_ble_eq_true (by rfl)) rfl ⟨rfl, trivial⟩ ?_
        refine s63 (fun q => absurd q (by decide)) (fun _ => jBk_ret rfl ⟨rfl, rfl⟩ ?_)
        refine R_if z82_88 (tn := 93) rfl (fun q => absurd (show (1 : Int32) = 0 from q) (by decide)) (fun _ => ?_)
        refine R_iconst z82_91 (v := 0) (by decide) ?_
        exact R_iret z82_92 (Or.inl (by decide +kernel)) ⟨Nat.zero_le _, Nat.zero_le _⟩ (hI g)
      · refine R_aload z82_70 rfl ?_
        refine R_get z82_71 (k := 4) (f := 10) (by decide +kernel) rfl rfl ?_
        refine R_sipush z82_74 (v := 300) (by decide) ?_
        refine R_icmp z82_77 (tn := 84) rfl (fun (h77 : ¬ ((V 10) : Int32) = 300) => ?_) (fun (h77 : ¬ (¬ ((V 10) : Int32) = 300)) => ?_)
        · refine R_iconst z82_84 (v := 0) (by decide) ?_
          refine R_cv z82_85 (k := 63) (by decide +kernel) rfl rfl (by decide +kernel) (Nat.le_of_ble_eq_true (by rfl)) rfl ⟨rfl, trivial⟩ ?_
          refine s63 (fun q => absurd q (by decide)) (fun _ => jBk_ret rfl ⟨rfl, rfl⟩ ?_)
          refine R_if z82_88 (tn := 93) rfl (fun q => absurd (show (1 : Int32) = 0 from q) (by decide)) (fun _ => ?_)
          refine R_iconst z82_91 (v := 0) (by decide) ?_
          exact R_iret z82_92 (Or.inl (by decide +kernel)) ⟨Nat.zero_le _, Nat.zero_le _⟩ (hI g)
        · refine R_iconst z82_80 (v := 1) (by decide) ?_
          refine R_goto z82_81 (tn := 85) rfl ?_
          refine R_cv z82_85 (k := 63) (by decide +kernel) rfl rfl (by decide +kernel) (Nat.le_of_ble_eq_true (by rfl)) rfl ⟨rfl, trivial⟩ ?_
          refine s63 (fun q => absurd q (by decide)) (fun _ => jBk_ret rfl ⟨rfl, rfl⟩ ?_)
          refine R_if z82_88 (tn := 93) rfl (fun q => absurd (show (1 : Int32) = 0 from q) (by decide)) (fun _ => ?_)
          refine R_iconst z82_91 (v := 0) (by decide) ?_
          exact R_iret z82_92 (Or.inl (by decide +kernel)) ⟨Nat.zero_le _, Nat.zero_le _⟩ (hI g)
theorem s97 {l : Launch} {E : jEnv} {A : Nat → Nat → Int32} {V : Nat → Int32} {O : Nat → Int64} {Q : jO → List jC → Prop} {s0 : Int32} {k : Nat} (hk : V 11 = nI k) (hk2 : k ≤ 12) (hbad : (s0 < 0 ∨ ¬ s0 < nI k) → Q (.inl (some (.int 0))) (hp A (va_up V 6 1) O)) (hok : ∀ j : Nat, s0 = nI j → j < k → Q (.inl (some (.int (A 39 j)))) (hp A (va_up V 6 0) O)) : GO l E 97 0 [some (.ref 25), some (.int s0)] [] (hp A V O) 0 0 Q := by
  refine R_aload z97_0 rfl ?_
  refine R_iload z97_1 rfl ?_
  refine R_iconst z97_2 (v := 0) (by decide) ?_
  refine R_aload z97_3 rfl ?_
  refine R_get z97_4 (k := 4) (f := 18) (by decide +kernel) rfl rfl ?_
  refine R_iconst z97_7 (v := 1) (by decide) ?_
  refine R_isub z97_8 ?_
  refine R_cs z97_9 (k := 64) (kind := 1) (by decide +kernel) (by decide) rfl rfl (by decide +kernel) (Nat.le_of_ble_eq_true (by rfl)) rfl ?_
  refine s64 (fun g => jBk_ret rfl ⟨rfl, rfl⟩ ?_) (fun g => jBk_ret rfl ⟨rfl, rfl⟩ ?_)
  · refine R_if z97_12 (tn := 19) rfl (fun _ => ?_) (fun q => absurd (show ¬ (1 : Int32) = 0 by decide) q)
    refine R_iconst z97_19 (v := 0) (by decide) ?_
    refine R_iconst z97_20 (v := 0) (by decide) ?_
    refine R_iconst z97_21 (v := 0) (by decide) ?_
    refine R_iconst z97_22 (v := 0) (by decide) ?_
    refine R_cv z97_23 (k := 63) (by decide +kernel) rfl rfl (by decide +kernel) (Nat.le_of_ble_eq_true (by rfl)) rfl ⟨rfl, trivial⟩ ?_
    refine s63 (fun _ => jBk_ret rfl ⟨rfl, rfl⟩ ?_) (fun q => absurd rfl q)
    refine R_if z97_26 (tn := 31) rfl (fun _ => ?_) (fun q => absurd (show (0 : Int32) = 0 by decide) q)
    rw [hk, jrg_n (by omega)] at g
    obtain ⟨j, hj, ej⟩ := jnat g.1 g.2 (by omega)
    refine R_aload z97_31 rfl ?_
    refine R_get z97_32 (k := 4) (f := 19) (by decide +kernel) rfl rfl ?_
    refine R_iload z97_35 rfl ?_
    refine R_ild z97_36 (n := 12) (f := A 39) (v := (A 39 j)) rfl (by rw [ej]; exact nin (by omega) (by decide)) (by rw [ej, ncl (by omega)]) ?_
    exact R_iret z97_37 (Or.inl (by decide +kernel)) ⟨Nat.zero_le _, Nat.zero_le _⟩ (hok j ej hj)
  · refine R_if z97_12 (tn := 19) rfl (fun q => absurd (show ¬ (0 : Int32) = 0 from q) (by decide)) (fun _ => ?_)
    refine R_iconst z97_15 (v := 1) (by decide) ?_
    refine R_goto z97_16 (tn := 20) rfl ?_
    refine R_iconst z97_20 (v := 0) (by decide) ?_
    refine R_iconst z97_21 (v := 0) (by decide) ?_
    refine R_iconst z97_22 (v := 0) (by decide) ?_
    refine R_cv z97_23 (k := 63) (by decide +kernel) rfl rfl (by decide +kernel) (Nat.le_of_ble_eq_true (by rfl)) rfl ⟨rfl, trivial⟩ ?_
    refine s63 (fun q => absurd q (by decide)) (fun _ => jBk_ret rfl ⟨rfl, rfl⟩ ?_)
    refine R_if z97_26 (tn := 31) rfl (fun q => absurd (show (1 : Int32) = 0 from q) (by decide)) (fun _ => ?_)
    refine R_iconst z97_29 (v := 0) (by decide) ?_
    exact R_iret z97_30 (Or.inl (by decide +kernel)) ⟨Nat.zero_le _, Nat.zero_le _⟩ (hbad (by rw [hk, jrg_n (by omega)] at g; exact (Classical.em (s0 < 0)).elim Or.inl (fun q => Or.inr (fun z => g ⟨q, z⟩))))
end

section
/-! ===== BEGIN words of one list among another's, by their places ===== -/
theorem goodIn_r {big : List Cond} (ws : List Cond) (ps : List Nat) (hp : ws = ps.filterMap (fun i => big[i]?)) (h : ws.all goodWord = true) : GoodIn big ws := by
  intro w hw
  have h1 := List.all_eq_true.mp h w hw
  rw [hp] at hw
  obtain ⟨i, -, hi⟩ := List.mem_filterMap.mp hw
  have hm : w ∈ big := by first | exact List.mem_of_getElem? hi | exact List.getElem?_mem hi
  exact ⟨hm, good_of_word h1⟩
theorem goodIn_app {big a b : List Cond} (ha : GoodIn big a) (hb : GoodIn big b) : GoodIn big (a ++ b) := fun w h => (List.mem_append.mp h).elim (ha w) (hb w)
theorem goodIn_ca {big a b : List Cond} {c : Cond} (ha : GoodIn big (c :: a)) (hb : GoodIn big b) : GoodIn big (c :: (a ++ b)) := fun w h => (List.mem_cons.mp h).elim (fun e => ha w (List.mem_cons.mpr (Or.inl e))) (fun h => (List.mem_append.mp h).elim (fun h => ha w (List.mem_cons.mpr (Or.inr h))) (hb w))
theorem goodIn_sub {big ws : List Cond} (hm : ∀ w ∈ ws, w ∈ big) (h : ws.all goodWord = true) : GoodIn big ws := fun w hw => ⟨hm w hw, good_of_word (List.all_eq_true.mp h w hw)⟩
/-! ===== END ===== -/

/-! ===== BEGIN exceptions that leave a method, and their catching by the caller (launches without stack traces) ===== -/
section VXA
/-! The laws vx_back, vx_callV, vx_callS, vx_callSW, vx_throw0, vx_throwS follow proofs of the library, with one case more: JvmDerived/Free/Laws.lean (Back.of_free), Shelf42/LK1.lean (callV, callS), Shelf/KitTraced.lean (throwNew0V, throwNewS). -/
/-- where a method has thrown q: the class by its name, the cell, what was written, the world -/
def vx_T (XC : String → State → State → Prop) (st : State) (q : Addr) (t : State) (mc ms : Nat) (free : Addr → Prop) : Prop :=
  ∃ (E : String) (ce : Cell) (L : List Loc), XC E st t ∧ t.heap[q]? = some ce ∧ ce.vm = .none ∧ st.vm.findClass E = some ce.cls ∧ st.WarmedH t.vm ∧ st.sameButNew ({ t with vm := st.vm } : State) L mc ms ∧ ∀ z ∈ L, free z.base
def vx_Q (Qc : Array Value → State → Outcome → State → Prop) (XC : String → State → State → Prop) (mc ms : Nat) (free : Addr → Prop) : Array Value → State → Outcome → State → Prop := fun a st o t =>
  (Qc a st o t ∧ ∃ L, FrameEnd st o t L mc ms ∧ ∀ q ∈ L, free q.base) ∨ ∃ q, o = .threw q ∧ vx_T XC st q t mc ms free
/-- a callee that returns or throws -/
def vx_Met (l : Launch) (y : MethodName) (ws : List Cond) (rm : Room) (Pc : Array Value → State → Prop) (Qc : Array Value → State → Outcome → State → Prop) (XC : String → State → State → Prop) (mc ms : Nat) (free : Addr → Prop) : Prop :=
  MetFree l y (headSpec ws rm) Pc (fun _ _ _ _ _ => True) (vx_Q Qc XC mc ms free)
def vx_Post (XC : String → State → State → Prop) (mc ms : Nat) (free : Addr → Prop) : Pt → Array Value → Addr → Pt → Prop := fun A a q B =>
  ∃ (g : JFrame) (mk : MethodId) (t : State) (L : List Loc) (E : String) (ce : Cell), B.U.heap = t.heap ∧ B.U.vm = t.vm ∧ XC E (A.U.calling g mk a) t ∧ t.heap[q]? = some ce ∧ ce.vm = .none ∧ A.U.vm.findClass E = some ce.cls ∧ B.locs = A.locs ++ L ∧ (∀ z ∈ L, free z.base) ∧ B.cells = A.cells + mc ∧ B.slots = A.slots + ms
def vx_Back (l : Launch) (R : Room) (p : Program) (e : Env) (below : List Frame) (s : State) (sargs : Array Value) (y : MethodName) (len W9 : Nat)
    (Pre : Pt → Array Value → Prop) (Post : Pt → Array Value → Option Value → Pt → Prop) (PostX : Pt → Array Value → Addr → Pt → Prop) : Prop :=
  ∀ (m : MethodId) (meth : Method) (c : Code) (A : Pt) (g : JFrame) (ig : Instr) (mk : MethodId) (a : Array Value),
    Stand p l e R s m sargs below meth c A.U A.locs A.cells A.slots → g.method = m → g.locals.size = c.maxLocals → decode c.code g.pc = .ok (ig, len) →
    2 * g.monitorRoom + (g.stack.map fun v => v.category).sum ≤ W9 → A.U.methodNamed? y = some mk → Pre A a →
    (∃ (v : Option Value) (B : Pt), Stand p l e R s m sargs below meth c B.U B.locs B.cells B.slots ∧ Post A a v B ∧
      Steps p.tables e below (doInvoke e (A.U.setTop g) [] mk a).1 (B.U.setTop { g with pc := g.pc + len, stack := v.toList ++ g.stack })) ∨
    (∃ (q : Addr) (B : Pt), Stand p l e R s m sargs below meth c B.U B.locs B.cells B.slots ∧ PostX A a q B ∧
      Steps p.tables e below (doInvoke e (A.U.setTop g) [] mk a).1 ((B.U.setTop g).pushFrame (.throwing q)))
section Payer
variable {l : Launch} {R : Room} {p : Program} {e : Env} {below : List Frame} {s : State} {sargs : Array Value} {y : MethodName} {len W9 : Nat}
theorem vx_back {ws : List Cond} {rm : Room} {Pc : Array Value → State → Prop} {Qc : Array Value → State → Outcome → State → Prop} {XC : String → State → State → Prop} {mc ms : Nat} {free : Addr → Prop} {bytes : ByteArray} {maxL : Nat} {ret : Option FieldType}
    (hM : vx_Met l y ws rm Pc Qc XC mc ms free) (hblind : FrameBlind Pc) (hrc : rm.cells = mc) (hrs : rm.slots = ms)
    (hframes : rm.frames + 1 ≤ R.frames) (hlocals : W9 + (maxL + 11) + rm.locals ≤ R.locals)
    (hws : ∀ w ∈ ws, ∀ a' U, s.WarmedH U.vm → w.before a' U = true) (hcode : Cond.code y bytes maxL ret ∈ ws) (hinit : ∀ a' U, s.WarmedH U.vm → (Cond.initialized y.cls).before a' U = true) :
    vx_Back l R p e below s sargs y len W9 (PreOf R mc ms Pc) (PostOf Qc mc ms free) (vx_Post XC mc ms free) := by
  intro m meth c A g ig mk a X hg hsize hdg hW hn hp
  have h1 : (headSpec ws rm).pre.before a A.U = true := atoms_intro fun w hw => hws w hw _ _ X.warmed
  have h2 : (Cond.code y bytes maxL ret).before a A.U = true := hws _ hcode _ _ X.warmed
  have h3 : (Cond.initialized y.cls).before a A.U = true := hinit _ _ X.warmed
  have h4 : A.cells + (headSpec ws rm).room.cells ≤ R.cells := by rw [show (headSpec ws rm).room.cells = mc from hrc]; exact hp.1
  have h5 : A.slots + (headSpec ws rm).room.slots ≤ R.slots := by rw [show (headSpec ws rm).room.slots = ms from hrs]; exact hp.2.1
  have hPc : Pc a (A.U.calling g mk a) := hblind _ _ _ _ hp.2.2
  obtain ⟨U, Ls, c0, s0⟩ := A
  dsimp only [Pt.U, Pt.locs, Pt.cells, Pt.slots] at h1 h2 h3 h4 h5 X hn hPc ⊢
  obtain ⟨methY, cY, hmY, hcY, -, hlY, -, -, -, -⟩ := Cond.code_spec hn h2
  obtain ⟨kY, hkY, -⟩ := className_of_methodNamed hn
  have hinitY : kY.init = .initialized := Cond.initialized_spec (findClass_of_methodNamed hn) hkY h3
  have h : At U g.method c below := by rw [hg]; exact X.here
  have hlocals9 : W9 + (maxL + 11) + (headSpec ws rm).room.locals ≤ R.locals := hlocals
  have happ : (headSpec ws rm).appliesLoose y e.platform (U.calling g mk a) = true :=
    Spec.appliesLoose_calling (g := g) h hdg hn hkY hinitY
      (X.room_calling (g := g) (R' := (headSpec ws rm).room) hsize hmY hcY hframes (by rw [hlY]; omega) h4 h5) h1
  obtain ⟨mid, hmid⟩ := h.above
  have hfr : (U.setTop g).frames = (.java g :: mid) ++ below := by rw [State.frames_setTop' g h.top, hmid]; rfl
  obtain ⟨o, s₂, hsteps, -, hend, hq⟩ := Steps.callFree hM p X.admits X.cas X.clock (acts := []) hfr happ hPc trivial
  have hq' : vx_Q Qc XC mc ms free a (U.calling g mk a) o s₂ := hq
  rw [State.frames_setTop' g h.top] at hend
  obtain ⟨g₀, hg0⟩ := Option.isSome_iff_exists.mp h.top
  obtain ⟨r, hr⟩ := State.topJava?_eq_some.mp hg0
  have hr' : (({ U with heap := s₂.heap, slotsUsed := s₂.slotsUsed } : State).setVm s₂.vm).frames = .java g₀ :: r := hr
  rcases hq' with ⟨hqc, L, hfe, hL⟩ | ⟨q, rfl, E, ce, L, hx, hce, hcv, hcl, hW₂, hsm, hL⟩
  · obtain ⟨⟨v, rfl⟩, hW₂, e2, q2, q3, q4, q5, q6⟩ := id hfe
    have e3 : s₂ = ({ (U.calling g mk a).setFrames s₂.frames with heap := s₂.heap, slotsUsed := s₂.slotsUsed } : State).setVm s₂.vm := by
      have : s₂ = ({ s₂ with vm := (U.calling g mk a).vm } : State).setVm s₂.vm := rfl
      rw [e2] at this
      exact this
    obtain ⟨c₂, i₂, len₂, hc₂, hd₂, hf₂⟩ := hend
    have hW' : U.WarmedH s₂.vm := hW₂
    have hcc : c₂ = c := by
      have h1 : s₂.code? g.method = U.code? g.method := by
        rw [State.code?_eq, State.code?_eq, hW'.alike.method?]
      exact Option.some.inj (hc₂.symm.trans (h1.trans h.code))
    subst hcc
    have hlen : len₂ = len := by rw [hdg] at hd₂; cases hd₂; rfl
    subst hlen
    have hs₂ : s₂ = (({ U with heap := s₂.heap, slotsUsed := s₂.slotsUsed } : State).setVm s₂.vm).setTop { g with pc := g.pc + len₂, stack := v.toList ++ g.stack } := by
      refine e3.trans ?_
      rw [hf₂, State.calling_eq h.top, State.setFrames_setFrames, State.setTop_of_frames _ hr', hr]
      rfl
    have hsame : U.sameButNew ({ U with heap := s₂.heap, slotsUsed := s₂.slotsUsed } : State) L mc ms := by
      refine ⟨?_, q2, q3, q4, q5, q6⟩
      obtain ⟨t, ht, -⟩ := State.frames_cons hr
      show ({ U with heap := s₂.heap, slotsUsed := s₂.slotsUsed } : State) = { U.setFrames U.frames with heap := s₂.heap, slotsUsed := s₂.slotsUsed }
      rw [State.setFrames_self ht]
    subst hg
    refine Or.inl ⟨v, ⟨(({ U with heap := s₂.heap, slotsUsed := s₂.slotsUsed } : State).setVm s₂.vm), Ls ++ L, c0 + mc, s0 + ms⟩,
      ⟨X.admits, X.cas, X.clock, X.frames, X.room, X.hears, X.method, X.code, (X.here.setHeapUsed s₂.heap s₂.slotsUsed).setVm hW'.alike, X.tail, State.WarmedH.trans X.warmed hW', X.limits, X.bytes, X.same.trans (hsame.setVm s.vm)⟩,
      ⟨g, mk, s₂, L, rfl, rfl, hqc, rfl, hL, rfl, rfl⟩, ?_⟩
    show Steps p.tables e below _ ((({ U with heap := s₂.heap, slotsUsed := s₂.slotsUsed } : State).setVm s₂.vm).setTop { g with pc := g.pc + len₂, stack := v.toList ++ g.stack })
    rw [← hs₂]
    exact hsteps
  · obtain ⟨e2, q2, q3, q4, q5, q6⟩ := id hsm
    have e3 : s₂ = ({ (U.calling g mk a).setFrames s₂.frames with heap := s₂.heap, slotsUsed := s₂.slotsUsed } : State).setVm s₂.vm := by
      have : s₂ = ({ s₂ with vm := (U.calling g mk a).vm } : State).setVm s₂.vm := rfl
      rw [e2] at this
      exact this
    have hf₂ : s₂.frames = .throwing q :: .java g :: U.frames.tail := hend
    have hW' : U.WarmedH s₂.vm := hW₂
    have hs₂ : s₂ = ((({ U with heap := s₂.heap, slotsUsed := s₂.slotsUsed } : State).setVm s₂.vm).setTop g).pushFrame (.throwing q) := by
      refine e3.trans ?_
      rw [hf₂, State.calling_eq h.top, State.setFrames_setFrames, State.pushFrame, State.frames_setTop _ hr', State.setTop_of_frames _ hr', State.setFrames_setFrames, hr]
      rfl
    have hsame : U.sameButNew ({ U with heap := s₂.heap, slotsUsed := s₂.slotsUsed } : State) L mc ms := by
      refine ⟨?_, q2, q3, q4, q5, q6⟩
      obtain ⟨t, ht, -⟩ := State.frames_cons hr
      show ({ U with heap := s₂.heap, slotsUsed := s₂.slotsUsed } : State) = { U.setFrames U.frames with heap := s₂.heap, slotsUsed := s₂.slotsUsed }
      rw [State.setFrames_self ht]
    subst hg
    refine Or.inr ⟨q, ⟨(({ U with heap := s₂.heap, slotsUsed := s₂.slotsUsed } : State).setVm s₂.vm), Ls ++ L, c0 + mc, s0 + ms⟩,
      ⟨X.admits, X.cas, X.clock, X.frames, X.room, X.hears, X.method, X.code, (X.here.setHeapUsed s₂.heap s₂.slotsUsed).setVm hW'.alike, X.tail, State.WarmedH.trans X.warmed hW', X.limits, X.bytes, X.same.trans (hsame.setVm s.vm)⟩,
      ⟨g, mk, s₂, L, E, ce, rfl, rfl, hx, hce, hcv, hcl, rfl, hL, rfl, rfl⟩, ?_⟩
    show Steps p.tables e below _ (((({ U with heap := s₂.heap, slotsUsed := s₂.slotsUsed } : State).setVm s₂.vm).setTop g).pushFrame (.throwing q))
    rw [← hs₂]
    exact hsteps
end Payer
section Calls
variable {p : Program} {l : Launch} {e : Env} {R : Room} {s : State} {m : MethodId} {args : Array Value} {below : List Frame} {meth : Method} {c : Code} {T : State} {locs : List Loc} {cells slots : Nat}
theorem vx_callV (X : Stand p l e R s m args below meth c T locs cells slots) (hexec : p.tables.exec = Jvm.exec) {own C : String} {index : Nat} {y : MethodName} {bytes : ByteArray} {maxL : Nat} {ret : Option FieldType}
    (hown : s.vm.findClass own = some m.cls) (hlink : (Cond.methodLink own index y).before args s = true) (hinst : (Cond.instanceMethod y).before args s = true) (hsel : (Cond.selects C y y).before args s = true)
    (hcode : (Cond.code y bytes maxL ret).before args s = true) (hy : y.cls ≠ "java/lang/invoke/MethodHandle" ∧ y.cls ≠ "java/lang/invoke/VarHandle")
    {W9 : Nat} {Pre : Pt → Array Value → Prop} {Post : Pt → Array Value → Option Value → Pt → Prop} {PostX : Pt → Array Value → Addr → Pt → Prop} (hK : vx_Back l R p e below s args y 3 W9 Pre Post PostX)
    {b : Addr} {cellB : Cell} (hcell : T.heap[b]? = some cellB) (hobj : cellB.vm.isStatics = false) (hcls : s.vm.findClass C = some cellB.cls)
    {g : JFrame} (hg : g.method = m) (hsize : g.locals.size = c.maxLocals) {argsL rest : List Value} (hlen : ∀ sig, parseMethodDescriptor y.desc = some sig → argsL.length = sig.parameters.length)
    (hstack : g.stack = argsL.reverse ++ .ref b :: rest) (hW : 2 * g.monitorRoom + (rest.map fun v => v.category).sum ≤ W9) (hdg : decode c.code g.pc = .ok (.invokevirtual index, 3))
    (hpre : ∀ vm₁, s.WarmedH vm₁ → Pre ⟨T.setVm vm₁, locs, cells, slots⟩ (Value.ref b :: argsL).toArray) :
    (∃ (v : Option Value) (vm₁ : Vm) (B : Pt), s.WarmedH vm₁ ∧ Stand p l e R s m args below meth c B.U B.locs B.cells B.slots ∧ Post ⟨T.setVm vm₁, locs, cells, slots⟩ (Value.ref b :: argsL).toArray v B ∧
      ∀ target, Steps p.tables e below (B.U.setTop { g with pc := g.pc + 3, stack := v.toList ++ rest }) target → Steps p.tables e below (T.setTop g) target) ∨
    (∃ (q : Addr) (vm₁ : Vm) (B : Pt), s.WarmedH vm₁ ∧ Stand p l e R s m args below meth c B.U B.locs B.cells B.slots ∧ PostX ⟨T.setVm vm₁, locs, cells, slots⟩ (Value.ref b :: argsL).toArray q B ∧
      Steps p.tables e below (T.setTop g) ((B.U.setTop { g with stack := rest }).pushFrame (.throwing q))) := by
  obtain ⟨mk, methM, hnamed, hmethM, hstM, habM⟩ := Cond.instanceMethod_spec hinst
  obtain ⟨methM', cM, hmethM', -, -, -, -, -, -, hsigM⟩ := Cond.code_spec hnamed hcode
  cases hmethM.symm.trans hmethM'
  obtain ⟨c2, r2, m2, q1, q2, q3, q4, kP, hkP, hkPi⟩ := Cond.selects_spec hsel
  cases hcls.symm.trans q1
  cases (State.methodFound?_of_named hnamed hy).symm.trans q2
  cases hnamed.symm.trans q3
  have hselP : selectMethod e.platform s.vm cellB.cls mk = .method mk := by rw [Launch.admits_selectMethod X.admits]; exact q4
  obtain ⟨vm₁, X₁, hstep₁⟩ := X.invokevirtual hexec hown hlink hnamed hmethM hstM hkP hkPi hy (a := b) (cell := cellB) hcell
    (fun z h => by rw [h] at hobj; cases hobj) hselP hmethM habM hkP hkPi (g := g) hg (argsL := argsL) (rest := rest) (hlen _ hsigM) hstack hdg
  rcases hK m meth c ⟨T.setVm vm₁, locs, cells, slots⟩ { g with stack := rest } (.invokevirtual index) mk (Value.ref b :: argsL).toArray X₁ hg hsize hdg hW (X₁.named hnamed) (hpre vm₁ X₁.warmed) with ⟨v, B, X', hpost, hsteps⟩ | ⟨q, B, X', hpost, hsteps⟩
  · exact Or.inl ⟨v, vm₁, B, X₁.warmed, X', hpost, fun target h => hstep₁ _ fun acts => by rw [doInvoke_state]; exact hsteps.trans h⟩
  · exact Or.inr ⟨q, vm₁, B, X₁.warmed, X', hpost, hstep₁ _ fun acts => by rw [doInvoke_state]; exact hsteps⟩
theorem vx_callS (X : Stand p l e R s m args below meth c T locs cells slots) (hexec : p.tables.exec = Jvm.exec) {own : String} {index : Nat} {y : MethodName} {bytes : ByteArray} {maxL : Nat} {ret : Option FieldType}
    (hown : s.vm.findClass own = some m.cls) (hlink : (Cond.methodLink own index y).before args s = true) (hstat : (Cond.static y).before args s = true) (hinit : (Cond.initialized y.cls).before args s = true)
    (hcode : (Cond.code y bytes maxL ret).before args s = true) (hy : y.cls ≠ "java/lang/invoke/MethodHandle" ∧ y.cls ≠ "java/lang/invoke/VarHandle")
    {W9 : Nat} {Pre : Pt → Array Value → Prop} {Post : Pt → Array Value → Option Value → Pt → Prop} {PostX : Pt → Array Value → Addr → Pt → Prop} (hK : vx_Back l R p e below s args y 3 W9 Pre Post PostX)
    {g : JFrame} (hg : g.method = m) (hsize : g.locals.size = c.maxLocals) {argsL rest : List Value} (hlen : ∀ sig, parseMethodDescriptor y.desc = some sig → argsL.length = sig.parameters.length)
    (hstack : g.stack = argsL.reverse ++ rest) (hW : 2 * g.monitorRoom + (rest.map fun v => v.category).sum ≤ W9) (hdg : decode c.code g.pc = .ok (.invokestatic index, 3))
    (hpre : ∀ vm₁, s.WarmedH vm₁ → Pre ⟨T.setVm vm₁, locs, cells, slots⟩ argsL.toArray) :
    (∃ (v : Option Value) (vm₁ : Vm) (B : Pt), s.WarmedH vm₁ ∧ Stand p l e R s m args below meth c B.U B.locs B.cells B.slots ∧ Post ⟨T.setVm vm₁, locs, cells, slots⟩ argsL.toArray v B ∧
      ∀ target, Steps p.tables e below (B.U.setTop { g with pc := g.pc + 3, stack := v.toList ++ rest }) target → Steps p.tables e below (T.setTop g) target) ∨
    (∃ (q : Addr) (vm₁ : Vm) (B : Pt), s.WarmedH vm₁ ∧ Stand p l e R s m args below meth c B.U B.locs B.cells B.slots ∧ PostX ⟨T.setVm vm₁, locs, cells, slots⟩ argsL.toArray q B ∧
      Steps p.tables e below (T.setTop g) ((B.U.setTop { g with stack := rest }).pushFrame (.throwing q))) := by
  obtain ⟨mk, hnamed⟩ := Cond.code_named hcode
  obtain ⟨methM, cM, hmethM, -, -, -, -, -, -, hsigM⟩ := Cond.code_spec hnamed hcode
  have hstatic : methM.isStatic = true := Cond.static_spec hnamed hmethM hstat
  obtain ⟨kP, hkP, -⟩ := className_of_methodNamed hnamed
  have hinitP : kP.init = .initialized := Cond.initialized_spec (findClass_of_methodNamed hnamed) hkP hinit
  obtain ⟨vm₁, X₁, hstep₁⟩ := X.invokestatic hexec hown hlink hnamed hmethM hstatic hkP hinitP hy (g := g) hg (argsL := argsL) (rest := rest) (hlen _ hsigM) hstack hdg
  rcases hK m meth c ⟨T.setVm vm₁, locs, cells, slots⟩ { g with stack := rest } (.invokestatic index) mk argsL.toArray X₁ hg hsize hdg hW (X₁.named hnamed) (hpre vm₁ X₁.warmed) with ⟨v, B, X', hpost, hsteps⟩ | ⟨q, B, X', hpost, hsteps⟩
  · exact Or.inl ⟨v, vm₁, B, X₁.warmed, X', hpost, fun target h => hstep₁ _ fun acts => by rw [doInvoke_state]; exact hsteps.trans h⟩
  · exact Or.inr ⟨q, vm₁, B, X₁.warmed, X', hpost, hstep₁ _ fun acts => by rw [doInvoke_state]; exact hsteps⟩
end Calls
theorem vx_cls {s : State} {T : State} {vm₁ : Vm} {E : String} {k : ClassId} (hW : s.WarmedH vm₁) (h : (T.setVm vm₁).vm.findClass E = some k) : s.vm.findClass E = some k := by
  have h1 : vm₁.findClass E = some k := h
  rw [hW.alike.findClass] at h1
  exact h1
/-- the method's frame g, with q thrown over it -/
def vx_W (p : Program) (l : Launch) (e : Env) (R : Room) (s : State) (m : MethodId) (args : Array Value) (below : List Frame) (meth : Method) (c : Code) (H : Heap) (locs : List Loc) (cells slots : Nat) (Q : State → Prop) (g : JFrame) (q : Addr) : Prop :=
  ∀ T : State, T.heap = H → Stand p l e R s m args below meth c T locs cells slots → ∃ t, Steps p.tables e below ((T.setTop g).pushFrame (.throwing q)) t ∧ Q t
def vx_Run (p : Program) (l : Launch) (e : Env) (R : Room) (s : State) (m : MethodId) (args : Array Value) (below : List Frame) (meth : Method) (c : Code) (H : Heap) (locs : List Loc) (cells slots mc ms : Nat) (g : JFrame) (rest : List Value) (Qa : State → Outcome → State → Prop) (XC : String → State → State → Prop) (free : Addr → Prop) : Prop :=
  ∀ T : State, T.heap = H → Stand p l e R s m args below meth c T locs cells slots →
    (∃ (v : Option Value) (st₀ t T' : State) (L : List Loc), st₀.heap = H ∧ Stand p l e R s m args below meth c T' (locs ++ L) (cells + mc) (slots + ms) ∧ (∀ q ∈ L, free q.base) ∧ T'.heap = t.heap ∧ T'.vm = t.vm ∧ Qa st₀ (.returned v) t ∧
      Goes p e below T g T' { g with pc := g.pc + 3, stack := v.toList ++ rest }) ∨
    (∃ (q : Addr) (st₀ t T' : State) (L : List Loc) (E : String) (ce : Cell), st₀.heap = H ∧ Stand p l e R s m args below meth c T' (locs ++ L) (cells + mc) (slots + ms) ∧ (∀ z ∈ L, free z.base) ∧ T'.heap = t.heap ∧ T'.vm = t.vm ∧ XC E st₀ t ∧ t.heap[q]? = some ce ∧ ce.vm = .none ∧ s.vm.findClass E = some ce.cls ∧
      Steps p.tables e below (T.setTop g) ((T'.setTop { g with stack := rest }).pushFrame (.throwing q)))
def vx_X {S : Type} (px : S → Prop) (B : String → S → State → Prop) (A : Nat → Prop) : String → State → State → Prop := fun E st t => ∃ u : S, px u ∧ B E u t ∧ va_F A st t
section Runs
variable {p : Program} {l : Launch} {e : Env} {R : Room} {s : State} {m : MethodId} {args : Array Value} {below : List Frame} {meth : Method} {c : Code} {H : Heap} {locs : List Loc} {cells slots : Nat}
variable {y : MethodName} {bytes cc : ByteArray} {maxL nL mc ms n index : Nat} {ret : Option FieldType} {ws : List Cond} {rm : Room} {Pc : Array Value → State → Prop} {Qc : Array Value → State → Outcome → State → Prop} {XC : String → State → State → Prop} {free : Addr → Prop} {Ts : List Cond} {own C : String} {b : Addr} {As rest : List Value} {g : JFrame}
theorem vx_callBack (cb : CallB R s args own index y bytes maxL ret ws rm mc ms n) (hM : vx_Met l y ws rm Pc Qc XC mc ms free) (hbl : FrameBlind Pc) : vx_Back l R p e below s args y 3 8 (PreOf R mc ms Pc) (PostOf Qc mc ms free) (vx_Post XC mc ms free) := by
  obtain ⟨hrc, hrs, hfr, hlo, hws, hcw, -, hini, -⟩ := cb
  exact vx_back (bytes := bytes) (maxL := maxL) (ret := ret) hM hbl hrc hrs hfr hlo hws hcw (fun a' U hW => word_at hW (Or.inl (by first | rfl | simp [Cond.onTables, Cond.keeps, Cond.steady])) hini)
theorem vx_runV (S : CallFix p m c cc nL s args Ts own) (hM : vx_Met l y ws rm Pc Qc XC mc ms free) (cw : CallW R s args own C index y bytes maxL ret ws rm mc ms n) (hp : PreV s H C b Pc As)
    (hg : g.method = m) (hn : As.length = n) (hsize : g.locals.size = nL) (hstack : g.stack = As.reverse ++ .ref b :: rest) (hW : 2 * g.monitorRoom + (rest.map fun v => v.category).sum ≤ 8) (hdg : decode cc g.pc = .ok (.invokevirtual index, 3)) (hf : cells + mc ≤ R.cells ∧ slots + ms ≤ R.slots) :
    vx_Run p l e R s m args below meth c H locs cells slots mc ms g rest (Qc (Value.ref b :: As).toArray) XC free := by
  have hK : vx_Back l R p e below s args y 3 8 (PreOf R mc ms Pc) (PostOf Qc mc ms free) (vx_Post XC mc ms free) := vx_callBack cw.1 hM hp.1
  obtain ⟨⟨-, -, -, -, -, -, hcode, -, hy, hlen, hl⟩, hin, hse⟩ := cw
  obtain ⟨hx, hb, hml, ho, -⟩ := S
  obtain ⟨-, ⟨cellB, hcB, hoB, hclB⟩, hPc⟩ := hp
  intro T hT X
  rcases vx_callV X hx (C := C) (bytes := bytes) (maxL := maxL) (ret := ret) ho hl hin hse hcode hy hK (by rw [hT]; exact hcB) hoB hclB hg (hsize.trans hml.symm) (argsL := As) (rest := rest) (fun sig h => hn.trans (hlen sig h)) hstack hW (by rw [hb]; exact hdg)
    (fun vm₁ hW₁ => ⟨hf.1, hf.2, hPc (T.setVm vm₁) hT hW₁⟩) with ⟨v, vm₁, ⟨U', l2, c2, s2⟩, hW₁, X', ⟨g', mk, t, L, e1, e2, hq, h1, hL, h2, h3⟩, st⟩ | ⟨q, vm₁, ⟨U', l2, c2, s2⟩, hW₁, X', ⟨g', mk, t, L, E, ce, e1, e2, hq, hce, hcv, hcl, h1, hL, h2, h3⟩, st⟩
  · dsimp only [Pt.U, Pt.locs, Pt.cells, Pt.slots] at X' e1 e2 h1 h2 h3 st
    subst h1; subst h2; subst h3
    exact Or.inl ⟨v, (T.setVm vm₁).calling g' mk (Value.ref b :: As).toArray, t, U', L, hT, X', hL, e1, e2, hq, st⟩
  · dsimp only [Pt.U, Pt.locs, Pt.cells, Pt.slots] at X' e1 e2 h1 h2 h3 st hcl
    subst h1; subst h2; subst h3
    exact Or.inr ⟨q, (T.setVm vm₁).calling g' mk (Value.ref b :: As).toArray, t, U', L, E, ce, hT, X', hL, e1, e2, hq, hce, hcv, vx_cls hW₁ hcl, st⟩
theorem vx_runS (S : CallFix p m c cc nL s args Ts own) (hM : vx_Met l y ws rm Pc Qc XC mc ms free) (cw : CallB R s args own index y bytes maxL ret ws rm mc ms n ∧ (Cond.static y).before args s = true) (hp : PreS s H Pc As)
    (hg : g.method = m) (hn : As.length = n) (hsize : g.locals.size = nL) (hstack : g.stack = As.reverse ++ rest) (hW : 2 * g.monitorRoom + (rest.map fun v => v.category).sum ≤ 8) (hdg : decode cc g.pc = .ok (.invokestatic index, 3)) (hf : cells + mc ≤ R.cells ∧ slots + ms ≤ R.slots) :
    vx_Run p l e R s m args below meth c H locs cells slots mc ms g rest (Qc As.toArray) XC free := by
  have hK : vx_Back l R p e below s args y 3 8 (PreOf R mc ms Pc) (PostOf Qc mc ms free) (vx_Post XC mc ms free) := vx_callBack cw.1 hM hp.1
  obtain ⟨⟨-, -, -, -, -, -, hcode, hini, hy, hlen, hl⟩, hstt⟩ := cw
  obtain ⟨hx, hb, hml, ho, -⟩ := S
  intro T hT X
  rcases vx_callS X hx (bytes := bytes) (maxL := maxL) (ret := ret) ho hl hstt hini hcode hy hK hg (hsize.trans hml.symm) (argsL := As) (rest := rest) (fun sig h => hn.trans (hlen sig h)) hstack hW (by rw [hb]; exact hdg)
    (fun vm₁ hW₁ => ⟨hf.1, hf.2, hp.2 (T.setVm vm₁) hT hW₁⟩) with ⟨v, vm₁, ⟨U', l2, c2, s2⟩, hW₁, X', ⟨g', mk, t, L, e1, e2, hq, h1, hL, h2, h3⟩, st⟩ | ⟨q, vm₁, ⟨U', l2, c2, s2⟩, hW₁, X', ⟨g', mk, t, L, E, ce, e1, e2, hq, hce, hcv, hcl, h1, hL, h2, h3⟩, st⟩
  · dsimp only [Pt.U, Pt.locs, Pt.cells, Pt.slots] at X' e1 e2 h1 h2 h3 st
    subst h1; subst h2; subst h3
    exact Or.inl ⟨v, (T.setVm vm₁).calling g' mk As.toArray, t, U', L, hT, X', hL, e1, e2, hq, st⟩
  · dsimp only [Pt.U, Pt.locs, Pt.cells, Pt.slots] at X' e1 e2 h1 h2 h3 st hcl
    subst h1; subst h2; subst h3
    exact Or.inr ⟨q, (T.setVm vm₁).calling g' mk As.toArray, t, U', L, E, ce, hT, X', hL, e1, e2, hq, hce, hcv, vx_cls hW₁ hcl, st⟩
end Runs
section Rows
variable {p : Program} {l : Launch} {e : Env} {R : Room} {s : State} {m : MethodId} {args : Array Value} {below : List Frame} {meth : Method} {c : Code} {H : Heap} {locs : List Loc} {cells slots : Nat} {Q : State → Prop}
variable {mc ms : Nat} {free : Addr → Prop} {A0 A1 : Nat → Prop} {H0 : Heap} {a : Array Value} {pc : Nat} {ls : Array Slot} {st0 rest : List Value}
theorem vx_keep {st₀ t T' : State} {L : List Loc} (h0 : st₀.heap = H) (e1 : T'.heap = t.heap) (hS : va_S A0 H0 H locs) (hA : ∀ q, q < H.size → A1 q → A0 q) (hf : ∀ q, free q → A0 q) (hL : ∀ q ∈ L, free q.base) (hF : va_F A1 st₀ t) :
    H.size ≤ T'.heap.size ∧ (∀ q : Nat, q < H.size → ¬ A1 q → T'.heap[q]? = H[q]?) ∧ va_S A0 H0 T'.heap (locs ++ L) := by
  obtain ⟨hz, hk⟩ := hF
  rw [h0] at hz hk
  exact ⟨by rw [e1]; exact hz, fun q h1 h2 => by rw [e1]; exact hk q h1 h2,
    ⟨Nat.le_trans hS.1 (by rw [e1]; exact hz), fun q h1 h2 => by rw [e1, hk q (Nat.lt_of_lt_of_le h1 hS.1) (fun z => h2 (hA q (Nat.lt_of_lt_of_le h1 hS.1) z))]; exact hS.2.1 q h1 h2, fun q hq => by
      rcases List.mem_append.mp hq with h | h
      · exact hS.2.2 q h
      · exact hf _ (hL q h)⟩⟩
theorem vx_calli {S SX : Type} {post : Int32 → S → Prop} {px : SX → Prop} {B : S → State → Prop} {BX : String → SX → State → Prop} {AX : Nat → Prop} (hr : vx_Run p l e R s m args below meth c H locs cells slots mc ms (F0 m pc ls st0) rest (va_Qi post B A1 a) (vx_X px BX AX) free) (hS : va_S A0 H0 H locs) (hA : ∀ q, q < H.size → A1 q → A0 q) (hf : ∀ q, free q → A0 q) (hAX : ∀ q, q < H.size → AX q → A0 q)
    (kx : ∀ (E : String) (ce : Cell) (q9 : Addr) (u : SX) (t : State) (H1 : Heap) (locs1 : List Loc), t.heap = H1 → s.vm.Alike t.vm → px u → BX E u t → H.size ≤ H1.size → (∀ q : Nat, q < H.size → ¬ AX q → H1[q]? = H[q]?) → va_S A0 H0 H1 locs1 → H1[q9]? = some ce → ce.vm = .none → s.vm.findClass E = some ce.cls → vx_W p l e R s m args below meth c H1 locs1 (cells + mc) (slots + ms) Q (F0 m pc ls rest) q9)
    (kk : ∀ (r : Int32) (u : S) (t : State) (H1 : Heap) (locs1 : List Loc), t.heap = H1 → s.vm.Alike t.vm → post r u → B u t → H.size ≤ H1.size → (∀ q : Nat, q < H.size → ¬ A1 q → H1[q]? = H[q]?) → va_S A0 H0 H1 locs1 → W p l e R s m args below meth c H1 locs1 (cells + mc) (slots + ms) Q (F0 m (pc + 3) ls (.int r :: rest))) : W p l e R s m args below meth c H locs cells slots Q (F0 m pc ls st0) := by
  intro T hT X
  rcases hr T hT X with ⟨v, st₀, t, T', L, h0, X', hL, e1, e2, ⟨⟨r, u, hv, hp, hb⟩, hF⟩, st⟩ | ⟨q, st₀, t, T', L, E, ce, h0, X', hL, e1, e2, ⟨u, hp, hb, hF⟩, hce, hcv, hcl, st⟩
  · cases hv
    obtain ⟨k1, k2, k3⟩ := vx_keep h0 e1 hS hA hf hL hF
    obtain ⟨t2, a1, b1⟩ := kk r u t T'.heap (locs ++ L) e1.symm (by rw [← e2]; exact X'.warmed.alike) hp hb k1 k2 k3 T' rfl X'
    exact ⟨t2, st t2 a1, b1⟩
  · obtain ⟨k1, k2, k3⟩ := vx_keep h0 e1 hS hAX hf hL hF
    obtain ⟨t2, a1, b1⟩ := kx E ce q u t T'.heap (locs ++ L) e1.symm (by rw [← e2]; exact X'.warmed.alike) hp hb k1 k2 k3 (by rw [e1]; exact hce) hcv hcl T' rfl X'
    exact ⟨t2, st.trans a1, b1⟩
theorem vx_calll {S SX : Type} {post : Int64 → S → Prop} {px : SX → Prop} {B : S → State → Prop} {BX : String → SX → State → Prop} {AX : Nat → Prop} (hr : vx_Run p l e R s m args below meth c H locs cells slots mc ms (F0 m pc ls st0) rest (va_Ql post B A1 a) (vx_X px BX AX) free) (hS : va_S A0 H0 H locs) (hA : ∀ q, q < H.size → A1 q → A0 q) (hf : ∀ q, free q → A0 q) (hAX : ∀ q, q < H.size → AX q → A0 q)
    (kx : ∀ (E : String) (ce : Cell) (q9 : Addr) (u : SX) (t : State) (H1 : Heap) (locs1 : List Loc), t.heap = H1 → s.vm.Alike t.vm → px u → BX E u t → H.size ≤ H1.size → (∀ q : Nat, q < H.size → ¬ AX q → H1[q]? = H[q]?) → va_S A0 H0 H1 locs1 → H1[q9]? = some ce → ce.vm = .none → s.vm.findClass E = some ce.cls → vx_W p l e R s m args below meth c H1 locs1 (cells + mc) (slots + ms) Q (F0 m pc ls rest) q9)
    (kk : ∀ (r : Int64) (u : S) (t : State) (H1 : Heap) (locs1 : List Loc), t.heap = H1 → s.vm.Alike t.vm → post r u → B u t → H.size ≤ H1.size → (∀ q : Nat, q < H.size → ¬ A1 q → H1[q]? = H[q]?) → va_S A0 H0 H1 locs1 → W p l e R s m args below meth c H1 locs1 (cells + mc) (slots + ms) Q (F0 m (pc + 3) ls (.long r :: rest))) : W p l e R s m args below meth c H locs cells slots Q (F0 m pc ls st0) := by
  intro T hT X
  rcases hr T hT X with ⟨v, st₀, t, T', L, h0, X', hL, e1, e2, ⟨⟨r, u, hv, hp, hb⟩, hF⟩, st⟩ | ⟨q, st₀, t, T', L, E, ce, h0, X', hL, e1, e2, ⟨u, hp, hb, hF⟩, hce, hcv, hcl, st⟩
  · cases hv
    obtain ⟨k1, k2, k3⟩ := vx_keep h0 e1 hS hA hf hL hF
    obtain ⟨t2, a1, b1⟩ := kk r u t T'.heap (locs ++ L) e1.symm (by rw [← e2]; exact X'.warmed.alike) hp hb k1 k2 k3 T' rfl X'
    exact ⟨t2, st t2 a1, b1⟩
  · obtain ⟨k1, k2, k3⟩ := vx_keep h0 e1 hS hAX hf hL hF
    obtain ⟨t2, a1, b1⟩ := kx E ce q u t T'.heap (locs ++ L) e1.symm (by rw [← e2]; exact X'.warmed.alike) hp hb k1 k2 k3 (by rw [e1]; exact hce) hcv hcl T' rfl X'
    exact ⟨t2, st.trans a1, b1⟩
theorem vx_callf {S SX : Type} {post : UInt32 → S → Prop} {px : SX → Prop} {B : S → State → Prop} {BX : String → SX → State → Prop} {AX : Nat → Prop} (hr : vx_Run p l e R s m args below meth c H locs cells slots mc ms (F0 m pc ls st0) rest (va_Qf post B A1 a) (vx_X px BX AX) free) (hS : va_S A0 H0 H locs) (hA : ∀ q, q < H.size → A1 q → A0 q) (hf : ∀ q, free q → A0 q) (hAX : ∀ q, q < H.size → AX q → A0 q)
    (kx : ∀ (E : String) (ce : Cell) (q9 : Addr) (u : SX) (t : State) (H1 : Heap) (locs1 : List Loc), t.heap = H1 → s.vm.Alike t.vm → px u → BX E u t → H.size ≤ H1.size → (∀ q : Nat, q < H.size → ¬ AX q → H1[q]? = H[q]?) → va_S A0 H0 H1 locs1 → H1[q9]? = some ce → ce.vm = .none → s.vm.findClass E = some ce.cls → vx_W p l e R s m args below meth c H1 locs1 (cells + mc) (slots + ms) Q (F0 m pc ls rest) q9)
    (kk : ∀ (r : UInt32) (u : S) (t : State) (H1 : Heap) (locs1 : List Loc), t.heap = H1 → s.vm.Alike t.vm → post r u → B u t → H.size ≤ H1.size → (∀ q : Nat, q < H.size → ¬ A1 q → H1[q]? = H[q]?) → va_S A0 H0 H1 locs1 → W p l e R s m args below meth c H1 locs1 (cells + mc) (slots + ms) Q (F0 m (pc + 3) ls (.float r :: rest))) : W p l e R s m args below meth c H locs cells slots Q (F0 m pc ls st0) := by
  intro T hT X
  rcases hr T hT X with ⟨v, st₀, t, T', L, h0, X', hL, e1, e2, ⟨⟨r, u, hv, hp, hb⟩, hF⟩, st⟩ | ⟨q, st₀, t, T', L, E, ce, h0, X', hL, e1, e2, ⟨u, hp, hb, hF⟩, hce, hcv, hcl, st⟩
  · cases hv
    obtain ⟨k1, k2, k3⟩ := vx_keep h0 e1 hS hA hf hL hF
    obtain ⟨t2, a1, b1⟩ := kk r u t T'.heap (locs ++ L) e1.symm (by rw [← e2]; exact X'.warmed.alike) hp hb k1 k2 k3 T' rfl X'
    exact ⟨t2, st t2 a1, b1⟩
  · obtain ⟨k1, k2, k3⟩ := vx_keep h0 e1 hS hAX hf hL hF
    obtain ⟨t2, a1, b1⟩ := kx E ce q u t T'.heap (locs ++ L) e1.symm (by rw [← e2]; exact X'.warmed.alike) hp hb k1 k2 k3 (by rw [e1]; exact hce) hcv hcl T' rfl X'
    exact ⟨t2, st.trans a1, b1⟩
theorem vx_calld {S SX : Type} {post : UInt64 → S → Prop} {px : SX → Prop} {B : S → State → Prop} {BX : String → SX → State → Prop} {AX : Nat → Prop} (hr : vx_Run p l e R s m args below meth c H locs cells slots mc ms (F0 m pc ls st0) rest (va_Qd post B A1 a) (vx_X px BX AX) free) (hS : va_S A0 H0 H locs) (hA : ∀ q, q < H.size → A1 q → A0 q) (hf : ∀ q, free q → A0 q) (hAX : ∀ q, q < H.size → AX q → A0 q)
    (kx : ∀ (E : String) (ce : Cell) (q9 : Addr) (u : SX) (t : State) (H1 : Heap) (locs1 : List Loc), t.heap = H1 → s.vm.Alike t.vm → px u → BX E u t → H.size ≤ H1.size → (∀ q : Nat, q < H.size → ¬ AX q → H1[q]? = H[q]?) → va_S A0 H0 H1 locs1 → H1[q9]? = some ce → ce.vm = .none → s.vm.findClass E = some ce.cls → vx_W p l e R s m args below meth c H1 locs1 (cells + mc) (slots + ms) Q (F0 m pc ls rest) q9)
    (kk : ∀ (r : UInt64) (u : S) (t : State) (H1 : Heap) (locs1 : List Loc), t.heap = H1 → s.vm.Alike t.vm → post r u → B u t → H.size ≤ H1.size → (∀ q : Nat, q < H.size → ¬ A1 q → H1[q]? = H[q]?) → va_S A0 H0 H1 locs1 → W p l e R s m args below meth c H1 locs1 (cells + mc) (slots + ms) Q (F0 m (pc + 3) ls (.double r :: rest))) : W p l e R s m args below meth c H locs cells slots Q (F0 m pc ls st0) := by
  intro T hT X
  rcases hr T hT X with ⟨v, st₀, t, T', L, h0, X', hL, e1, e2, ⟨⟨r, u, hv, hp, hb⟩, hF⟩, st⟩ | ⟨q, st₀, t, T', L, E, ce, h0, X', hL, e1, e2, ⟨u, hp, hb, hF⟩, hce, hcv, hcl, st⟩
  · cases hv
    obtain ⟨k1, k2, k3⟩ := vx_keep h0 e1 hS hA hf hL hF
    obtain ⟨t2, a1, b1⟩ := kk r u t T'.heap (locs ++ L) e1.symm (by rw [← e2]; exact X'.warmed.alike) hp hb k1 k2 k3 T' rfl X'
    exact ⟨t2, st t2 a1, b1⟩
  · obtain ⟨k1, k2, k3⟩ := vx_keep h0 e1 hS hAX hf hL hF
    obtain ⟨t2, a1, b1⟩ := kx E ce q u t T'.heap (locs ++ L) e1.symm (by rw [← e2]; exact X'.warmed.alike) hp hb k1 k2 k3 (by rw [e1]; exact hce) hcv hcl T' rfl X'
    exact ⟨t2, st.trans a1, b1⟩
theorem vx_callv {S SX : Type} {post : S → Prop} {px : SX → Prop} {B : S → State → Prop} {BX : String → SX → State → Prop} {AX : Nat → Prop} (hr : vx_Run p l e R s m args below meth c H locs cells slots mc ms (F0 m pc ls st0) rest (va_Qv post B A1 a) (vx_X px BX AX) free) (hS : va_S A0 H0 H locs) (hA : ∀ q, q < H.size → A1 q → A0 q) (hf : ∀ q, free q → A0 q) (hAX : ∀ q, q < H.size → AX q → A0 q)
    (kx : ∀ (E : String) (ce : Cell) (q9 : Addr) (u : SX) (t : State) (H1 : Heap) (locs1 : List Loc), t.heap = H1 → s.vm.Alike t.vm → px u → BX E u t → H.size ≤ H1.size → (∀ q : Nat, q < H.size → ¬ AX q → H1[q]? = H[q]?) → va_S A0 H0 H1 locs1 → H1[q9]? = some ce → ce.vm = .none → s.vm.findClass E = some ce.cls → vx_W p l e R s m args below meth c H1 locs1 (cells + mc) (slots + ms) Q (F0 m pc ls rest) q9)
    (kk : ∀ (u : S) (t : State) (H1 : Heap) (locs1 : List Loc), t.heap = H1 → s.vm.Alike t.vm → post u → B u t → H.size ≤ H1.size → (∀ q : Nat, q < H.size → ¬ A1 q → H1[q]? = H[q]?) → va_S A0 H0 H1 locs1 → W p l e R s m args below meth c H1 locs1 (cells + mc) (slots + ms) Q (F0 m (pc + 3) ls (rest))) : W p l e R s m args below meth c H locs cells slots Q (F0 m pc ls st0) := by
  intro T hT X
  rcases hr T hT X with ⟨v, st₀, t, T', L, h0, X', hL, e1, e2, ⟨⟨u, hv, hp, hb⟩, hF⟩, st⟩ | ⟨q, st₀, t, T', L, E, ce, h0, X', hL, e1, e2, ⟨u, hp, hb, hF⟩, hce, hcv, hcl, st⟩
  · cases hv
    obtain ⟨k1, k2, k3⟩ := vx_keep h0 e1 hS hA hf hL hF
    obtain ⟨t2, a1, b1⟩ := kk u t T'.heap (locs ++ L) e1.symm (by rw [← e2]; exact X'.warmed.alike) hp hb k1 k2 k3 T' rfl X'
    exact ⟨t2, st t2 a1, b1⟩
  · obtain ⟨k1, k2, k3⟩ := vx_keep h0 e1 hS hAX hf hL hF
    obtain ⟨t2, a1, b1⟩ := kx E ce q u t T'.heap (locs ++ L) e1.symm (by rw [← e2]; exact X'.warmed.alike) hp hb k1 k2 k3 (by rw [e1]; exact hce) hcv hcl T' rfl X'
    exact ⟨t2, st.trans a1, b1⟩
/-- caught by the row x of this method's table; the rows ahead don't take it -/
theorem vx_catch {own name : String} {E : String} {ce : Cell} {q : Addr} (hown : s.vm.findClass own = some m.cls) (pre : List ExceptionTableEntry) (x : ExceptionTableEntry) (suf : List ExceptionTableEntry) (hsplit : c.exceptionTable.toList = pre ++ x :: suf)
    (hpass : ∀ z ∈ pre, covers z pc = false ∨ (z.catchType ≠ 0 ∧ ∃ nm : String, (Cond.classLink own z.catchType nm).before args s = true ∧ va_Nc E nm s)) (hx : covers x pc = true) (h0 : x.catchType ≠ 0)
    (hlink : (Cond.classLink own x.catchType name).before args s = true) (hcast : (Cond.castable E name).before args s = true) (hcell : H[q]? = some ce) (hv : ce.vm = .none) (hcl : s.vm.findClass E = some ce.cls)
    (kk : W p l e R s m args below meth c H locs cells slots Q (F0 m x.handlerPc ls [.ref q])) : vx_W p l e R s m args below meth c H locs cells slots Q (F0 m pc ls rest) q := by
  intro T hT X
  have hpl : e.platform.magicAccessors = ({} : Platform).magicAccessors := by rw [X.admits.platform]
  obtain ⟨c3, c4, hc3, hc4, hasg⟩ := Cond.castable_spec hcast
  cases Option.some.inj (hc3.symm.trans hcl)
  obtain ⟨c5, hc5, hcl5⟩ := Cond.classLink_spec hown hlink e.platform hpl
  cases Option.some.inj (hc4.symm.trans hc5)
  obtain ⟨vm', X', st⟩ := X.thenCaughtThrough q (g := F0 m pc ls rest) rfl (Steps.refl _) (by rw [hT]; exact hcell) (by rw [hv]; rfl) (by obtain ⟨k9, h9, -⟩ := Vm.findClass_spec hcl; exact ⟨k9, h9⟩) pre x suf hsplit
    (fun z hz => by
      rcases hpass z hz with h | ⟨hz0, nm, hl1, hn1⟩
      · exact Or.inl h
      · obtain ⟨c6, hc6, hcl6⟩ := Cond.classLink_spec hown hl1 e.platform hpl
        obtain ⟨a8, b8, h1, h2, h3⟩ := hn1
        cases Option.some.inj (h1.symm.trans hcl)
        cases Option.some.inj (h2.symm.trans hc6)
        exact Or.inr ⟨hz0, _, hcl6, h3⟩) hx (Or.inr ⟨h0, c4, hcl5, hasg⟩)
  obtain ⟨t, a1, b1⟩ := kk (T.setVm vm') hT X'
  exact ⟨t, st.trans a1, b1⟩
end Rows
section Ends
variable {p : Program} {l : Launch} {e : Env} {R : Room} {s : State} {m : MethodId} {args : Array Value} {below : List Frame} {meth : Method} {c : Code} {H : Heap} {locs : List Loc} {cells slots : Nat} {Q : State → Prop}
variable {mc ms : Nat} {free : Addr → Prop} {A0 A1 : Nat → Prop} {H0 : Heap} {a : Array Value} {ls : Array Slot} {st0 rest : List Value}
variable {Qc : Array Value → State → Outcome → State → Prop} {XC : String → State → State → Prop}
/-- what a body that may throw owes at its end -/
def vx_MQ (below : List Frame) (Qc : Array Value → State → Outcome → State → Prop) (XC : String → State → State → Prop) (a : Array Value) (s : State) (mc ms : Nat) (free : Addr → Prop) : State → Prop := fun t =>
  ∃ o, t.status = .running ∧ Ended t below o ∧ vx_Q Qc XC mc ms free a s o t
theorem vx_ret {g : JFrame} {mc ms : Nat} (k : W p l e R s m args below meth c H locs cells slots (MQ below Qc args s mc ms free) g) : W p l e R s m args below meth c H locs cells slots (vx_MQ below Qc XC args s mc ms free) g := by
  intro T hT X
  obtain ⟨t, a1, o, b1, b2, b3, b4⟩ := k T hT X
  exact ⟨t, a1, o, b1, b2, Or.inl ⟨b3, b4⟩⟩
/-- not caught here: it goes on to the caller -/
theorem vx_widen {g : JFrame} {q : Addr} {k n : Nat} (h1 : cells ≤ k) (h2 : slots ≤ n) (kk : vx_W p l e R s m args below meth c H locs k n Q g q) : vx_W p l e R s m args below meth c H locs cells slots Q g q := fun T hT X => kk T hT (stand_widen X h1 h2)
theorem vx_out {pc : Nat} {E : String} {ce : Cell} {q : Addr} {mc ms : Nat} (hout : ∀ x ∈ c.exceptionTable.toList, covers x pc = false) (hlocks : meth.locks = false) (hcell : H[q]? = some ce) (hv : ce.vm = .none) (hcl : s.vm.findClass E = some ce.cls)
    (hx : ∀ t : State, t.heap = H → s.vm.Alike t.vm → XC E s t) (hf : ∀ z ∈ locs, free z.base) (hc : cells ≤ mc) (hs : slots ≤ ms) :
    vx_W p l e R s m args below meth c H locs cells slots (vx_MQ below Qc XC args s mc ms free) (F0 m pc ls rest) q := by
  intro T hT X
  obtain ⟨st1, hrun, hend, hW, hsm⟩ := X.leaveThrown q (g := F0 m pc ls rest) rfl rfl rfl hout hlocks
  have hcell9 : (T.setFrames (.throwing q :: below)).heap[q]? = some ce := by
    show T.heap[q]? = some ce
    rw [hT]; exact hcell
  exact ⟨_, st1, .threw q, hrun, hend, Or.inr ⟨q, rfl, E, ce, locs, hx _ hT hW.alike, hcell9, hv, hcl, hW, hsm.mono hc hs, hf⟩⟩
theorem vx_frame {U : State} {k n : Nat} (h : s.sameButNew ({ U with vm := s.vm } : State) locs k n) : s.heap.size ≤ U.heap.size ∧ ∀ q : Nat, q < s.heap.size → (∀ z ∈ locs, z.base ≠ q) → U.heap[q]? = s.heap[q]? := by
  obtain ⟨-, h2, -, -, -, h6⟩ := h
  refine ⟨h2, fun q hq hz => ?_⟩
  obtain ⟨c9, e1, e2, e3, e4⟩ := h6 q _ (Array.getElem?_eq_getElem hq)
  have hs : c9.slots = (s.heap[q]).slots := Array.ext_getElem? fun i => e4 i fun hm => hz _ hm rfl
  have h9 : c9 = s.heap[q] := by
    rw [hs] at e2
    exact e2
  have e5 : U.heap[q]? = some c9 := e1
  rw [e5, h9, Array.getElem?_eq_getElem hq]
/-- the words of a throw but the four that speak of the heap -/
def vx_no (w : Cond) : Bool := decide (w ≠ .isRef (.static Bundle.tN "UNASSIGNED_STACK" Bundle.steD)) && decide (w ≠ .isRef (.static Bundle.tN "SUPPRESSED_SENTINEL" Bundle.listD)) && decide (w ≠ .laysStatic Bundle.tN "UNASSIGNED_STACK" Bundle.steD) && decide (w ≠ .laysStatic Bundle.tN "SUPPRESSED_SENTINEL" Bundle.listD)
def vx_at0 (own : String) (ic : Nat) (X : String) (names : List String) : List Cond := (Bundle.ownAtoms0 own ic X names).filter vx_no
def vx_atS (own : String) (ic : Nat) (X : String) (names : List String) : List Cond := (Bundle.ownAtoms own ic X names).filter vx_no
/-- a word that the tables alone decide, or a good one -/
def vx_ot (w : Cond) : Bool := w.onTables || goodWord w
theorem vx_ot_at {args a' : Array Value} {s U : State} {w : Cond} (hW : s.WarmedH U.vm) (hvm : s.vm = U.vm) (hg : vx_ot w = true) (h : w.before args s = true) : w.before a' U = true := by
  simp only [vx_ot, Bool.or_eq_true] at hg
  rcases hg with hg | hg
  · exact va_tabs hg hvm h
  · exact word_at hW (good_of_word hg) h
/-- a list's words: the good ones out of the method's own list, the others by premises of their own -/
theorem vx_hat {args : Array Value} {s : State} {L B : List Cond} (h1 : ∀ w ∈ L.filter goodWord, w.before args s = true) (h2 : ∀ w ∈ L.filter (fun w => !goodWord w), w ∈ B) (h3 : ∀ w ∈ B, w.before args s = true) : ∀ w ∈ L, w.before args s = true := by
  intro w hw
  by_cases g : goodWord w = true
  · exact h1 w (List.mem_filter.mpr ⟨hw, g⟩)
  · refine h3 w (h2 w (List.mem_filter.mpr ⟨hw, ?_⟩))
    show (!goodWord w) = true
    cases hgw : goodWord w
    · rfl
    · exact absurd hgw g
theorem vx_c {args : Array Value} {s : State} {w : Cond} {B : List Cond} (h : w.before args s = true) (t : ∀ w ∈ B, w.before args s = true) : ∀ w' ∈ w :: B, w'.before args s = true := fun w' h' => (List.mem_cons.mp h').elim (fun e => by rw [e]; exact h) (t w')
theorem vx_n {args : Array Value} {s : State} : ∀ w ∈ ([] : List Cond), w.before args s = true := fun _ h => nomatch h
theorem vx_own {args : Array Value} {s : State} {L : List Cond} (h1 : ∀ w ∈ L.filter vx_no, w.before args s = true)
    (hU : (Cond.isRef (.static Bundle.tN "UNASSIGNED_STACK" Bundle.steD)).before args s = true) (hN : (Cond.isRef (.static Bundle.tN "SUPPRESSED_SENTINEL" Bundle.listD)).before args s = true)
    (lU : (Cond.laysStatic Bundle.tN "UNASSIGNED_STACK" Bundle.steD).before args s = true) (lN : (Cond.laysStatic Bundle.tN "SUPPRESSED_SENTINEL" Bundle.listD).before args s = true) : ∀ w ∈ L, w.before args s = true := by
  intro w hw
  by_cases e1 : w = .isRef (.static Bundle.tN "UNASSIGNED_STACK" Bundle.steD)
  · rw [e1]; exact hU
  · by_cases e2 : w = .isRef (.static Bundle.tN "SUPPRESSED_SENTINEL" Bundle.listD)
    · rw [e2]; exact hN
    · by_cases e3 : w = .laysStatic Bundle.tN "UNASSIGNED_STACK" Bundle.steD
      · rw [e3]; exact lU
      · by_cases e4 : w = .laysStatic Bundle.tN "SUPPRESSED_SENTINEL" Bundle.listD
        · rw [e4]; exact lN
        · exact h1 w (List.mem_filter.mpr ⟨hw, by unfold vx_no; rw [decide_eq_true e1, decide_eq_true e2, decide_eq_true e3, decide_eq_true e4]; rfl⟩)
/-- where a static field lies, its class's statics cell in H -/
def vx_L (C n d : String) (A : Nat → Prop) (U : State) (H : Heap) : Prop := ∃ (c : ClassId) (k : Class) (i : Nat) (f : Field) (a : Nat) (cell : Cell), U.vm.findClass C = some c ∧ U.fieldFound? C n d = some (c, k, i, f) ∧ f.isStatic = true ∧ k.statics = some a ∧ H[a]? = some cell ∧ cell.vm.isStatics = true ∧ cell.cls = c ∧ f.slot < cell.slots.size ∧ k.staticTypes[f.slot]? = some f.type ∧ ¬ A a
theorem vx_L.moved {C n d : String} {A : Nat → Prop} {u U : State} {H : Heap} (hvm : u.vm.Alike U.vm) (h : vx_L C n d A u H) : vx_L C n d A U H := by
  obtain ⟨c, k, i, f, a, cell, h1, h2, h3, h4, h5, h6, h7, h8, h9, h10⟩ := h
  obtain ⟨k', hi', he⟩ := State.fieldFound?_setVm hvm h2
  exact ⟨c, k', i, f, a, cell, by rw [hvm.findClass]; exact h1, hi', h3, by rw [he]; exact h4, h5, h6, h7, h8, by rw [he]; exact h9, h10⟩
theorem vx_L.kept {C n d : String} {A : Nat → Prop} {U : State} {H H1 : Heap} (h : vx_L C n d A U H) (hq : ∀ a : Nat, a < H.size → ¬ A a → H1[a]? = H[a]?) : vx_L C n d A U H1 := by
  obtain ⟨c, k, i, f, a, cell, h1, h2, h3, h4, h5, h6, h7, h8, h9, h10⟩ := h
  exact ⟨c, k, i, f, a, cell, h1, h2, h3, h4, by rw [hq a (Array.getElem?_eq_some_iff.mp h5).1 h10]; exact h5, h6, h7, h8, h9, h10⟩
theorem vx_L.narrow {C n d : String} {A B : Nat → Prop} {U : State} {H : Heap} (h : vx_L C n d A U H) (hAB : ∀ q, B q → A q) : vx_L C n d B U H := by
  obtain ⟨c, k, i, f, a, cell, h1, h2, h3, h4, h5, h6, h7, h8, h9, h10⟩ := h
  exact ⟨c, k, i, f, a, cell, h1, h2, h3, h4, h5, h6, h7, h8, h9, fun z => h10 (hAB _ z)⟩
theorem vx_L.word {C n d : String} {A : Nat → Prop} {s : State} {args : Array Value} (h : vx_L C n d A s s.heap) : (Cond.laysStatic C n d).before args s = true := by
  obtain ⟨c, k, i, f, a, cell, h1, h2, h3, h4, h5, h6, h7, h8, h9, -⟩ := h
  show (Cond.laysStatic C n d).holds args s none s [] = true
  exact Cond.laysStatic_of h1 h2 h3 h4 h5 h6 h7 h8 h9
/-- .. and what it holds: null or some reference -/
def vx_Zq (C n d : String) (A : Nat → Prop) (U : State) (H : Heap) : Prop := va_Zq C n d A U H ∧ vx_L C n d A U H
theorem vx_Zq.moved {C n d : String} {A : Nat → Prop} {u U : State} {H : Heap} (hvm : u.vm.Alike U.vm) (h : vx_Zq C n d A u H) : vx_Zq C n d A U H := ⟨va_Zq.moved hvm h.1, vx_L.moved hvm h.2⟩
theorem vx_Zq.kept {C n d : String} {A : Nat → Prop} {U : State} {H H1 : Heap} (h : vx_Zq C n d A U H) (hq : ∀ a : Nat, a < H.size → ¬ A a → H1[a]? = H[a]?) : vx_Zq C n d A U H1 := ⟨va_Zq.kept h.1 hq, vx_L.kept h.2 hq⟩
theorem vx_Zq.narrow {C n d : String} {A B : Nat → Prop} {U : State} {H : Heap} (h : vx_Zq C n d A U H) (hAB : ∀ q, B q → A q) : vx_Zq C n d B U H := ⟨va_Zq.narrow h.1 hAB, vx_L.narrow h.2 hAB⟩
theorem vx_Zqof {args : Array Value} {s : State} {C n d : String} {A : Nat → Prop} (hl : (Cond.laysStatic C n d).before args s = true) (hini : (Cond.initialized C).before args s = true) (h : (Cond.isRef (.static C n d)).before args s = true) (hA : ∀ a : Nat, a < s.heap.size → ¬ A a) : vx_Zq C n d A s s.heap := by
  refine ⟨va_Zqof hl hini h hA, ?_⟩
  obtain ⟨c, k, i, f, a, cell, h1, h2, h3, h4, h5, h6, h7, h8, h9⟩ := Cond.laysStatic_spec hl
  exact ⟨c, k, i, f, a, cell, h1, h2, h3, h4, h5, h6, h7, h8, h9, hA a (Array.getElem?_eq_some_iff.mp h5).1⟩
theorem vx_isRef {C n d : String} {v : Value} {A : Nat → Prop} {s : State} {args : Array Value} (h : va_Z C n d v A s s.heap) (hv : v.isRef = true) : (Cond.isRef (.static C n d)).before args s = true := by
  obtain ⟨cf, kf, fi, f, a, cell, h1, h2, h3, h4, h5, h6, h7, -⟩ := h
  have he : (Term.static C n d).eval args s none [] s = some v := by
    simp [Term.eval, State.fieldNamed?, h1, h2, h4, h5, h6, h7]
  simp only [Cond.before, Cond.holds, Cond.value, he]
  cases v <;> simp_all [Value.isRef]
theorem vx_isRefq {C n d : String} {A : Nat → Prop} {s : State} {args : Array Value} (h : va_Zq C n d A s s.heap) : (Cond.isRef (.static C n d)).before args s = true := by
  rcases h with h | ⟨t, h⟩
  · exact vx_isRef h rfl
  · exact vx_isRef h rfl
/-- the same frame, seen from here: as if the method were called anew in this heap -/
theorem vx_rebase {T : State} (X : Stand p l e R s m args below meth c T locs cells slots) {R' : Room} (hf : R'.frames ≤ R.frames) (hl : R'.locals ≤ R.locals) (hc : cells + R'.cells ≤ R.cells) (hs : slots + R'.slots ≤ R.slots) :
    Stand p l e R' ((T.setVm s.vm).setFrames (.invoking m args :: below)) m args below meth c T [] 0 0 := by
  have htop : (T.setVm s.vm).topJava?.isSome := X.here.top
  have hF : ((T.setVm s.vm).setFrames (.invoking m args :: below)).frames = .invoking m args :: below := State.frames_setFrames _ (State.cur_lt_of_top htop)
  obtain ⟨g₀, hg0⟩ := Option.isSome_iff_exists.mp htop
  obtain ⟨r, hr⟩ := State.topJava?_eq_some.mp hg0
  have hl9 : e.platform.stackLimits (T.setVm s.vm).me = e.platform.stackLimits s.me := X.limits
  have hb9 : (T.setVm s.vm).me.stackBytes = s.me.stackBytes := X.bytes
  refine ⟨X.admits, X.cas, X.clock, hF, ?_, X.hears, X.method, X.code, X.here, X.tail, X.warmed, ?_, ?_, ?_⟩
  · have h := X.room
    have hU : ((T.setVm s.vm).setFrames (.invoking m args :: below)).localsInUse = s.localsInUse := by
      rw [State.localsInUse_invoking hF (meth := meth) (c := c) X.method X.code, State.localsInUse_invoking X.frames X.method X.code]
    simp only [State.hasRoom, Bool.and_eq_true, decide_eq_true_eq] at h ⊢
    obtain ⟨⟨⟨⟨h1, h2, h3, h4, h5, h6⟩, h7⟩, h8⟩, h9⟩ := h
    rw [X.frames, List.length_cons] at h2 h3
    have q1 := X.heapSize
    have q2 := X.used
    simp only [hF, hU, List.length_cons, State.stackLimits_setFrames, State.stackBytes_setFrames, hl9, hb9]
    refine ⟨⟨⟨⟨by omega, by omega, by omega, by omega, by omega, h6⟩, ?_⟩, ?_⟩, X.book⟩
    · show T.heap.size + R'.cells ≤ e.platform.maxCells
      omega
    · show T.slotsUsed + R'.slots ≤ e.platform.maxSlots
      omega
  · rw [State.stackLimits_setFrames]; rfl
  · rw [State.stackBytes_setFrames]; rfl
  · refine ⟨?_, Nat.le_refl _, Nat.le_refl _, ?_, ?_, fun a c9 h9 => ⟨c9, h9, rfl, rfl, fun _ _ => rfl⟩⟩
    · obtain ⟨t, ht, -⟩ := State.frames_cons hr
      show T.setVm s.vm = { ((T.setVm s.vm).setFrames (.invoking m args :: below)).setFrames (T.setVm s.vm).frames with heap := T.heap, slotsUsed := T.slotsUsed }
      rw [State.setFrames_setFrames, State.setFrames_self ht]
      rfl
    · show T.slotsUsed = T.slotsUsed + ((T.heap.toList.drop T.heap.size).map (·.slots.size)).sum
      rw [List.drop_eq_nil_of_le (Nat.le_of_eq Array.length_toList)]
      rfl
    · show ((T.heap.toList.drop T.heap.size).map (·.slots.size)).sum ≤ 0
      rw [List.drop_eq_nil_of_le (Nat.le_of_eq Array.length_toList)]
      exact Nat.le_refl _
/-- 'throw new E()': new; dup; invokespecial; athrow -/
theorem vx_throw0 {cc : ByteArray} {pc : Nat} (hexec : p.tables.exec = Jvm.exec) (hb : c.code = cc) (hl : l.stackTraces = false) {own cls : String} {names : List String} {ik ic mc ms : Nat} {A : Nat → Prop}
    (hown : s.vm.findClass own = some m.cls) (hcls : Bundle.fit cls = true) (hnames : ∀ n ∈ names, Bundle.fit n = true)
    (hk : (Cond.classLink own ik cls).before args s = true) (hini : (Cond.initialized cls).before args s = true) (hat : ∀ w ∈ vx_at0 own ic cls names, w.before args s = true)
    (hgood : ∀ w ∈ Cond.classLink own ik cls :: Cond.initialized cls :: vx_at0 own ic cls names, vx_ot w = true)
    (hU : vx_Zq Bundle.tN "UNASSIGNED_STACK" Bundle.steD A s s.heap) (hN : vx_Zq Bundle.tN "SUPPRESSED_SENTINEL" Bundle.listD A s s.heap) (hS : va_S A s.heap H locs) (hsize : ls.size = c.maxLocals)
    (d0 : decode cc pc = .ok (.new ik, 3)) (d3 : decode cc (pc + 3) = .ok (.dup, 1)) (d4 : decode cc (pc + 4) = .ok (.invokespecial ic, 3)) (d7 : decode cc (pc + 7) = .ok (.athrow, 1))
    (hout : ∀ x ∈ c.exceptionTable.toList, covers x (pc + 7) = false)
    (hRframes : names.length + 3 < R.frames) (hRlocals : (rest.map fun v => v.category).sum + (13 * (names.length + 1) + 42) ≤ R.locals) (hRcells : cells + 1 ≤ R.cells) (hRslots : slots + 6 ≤ R.slots) (hlocks : meth.locks = false)
    (hx : ∀ t : State, s.vm.Alike t.vm → H.size ≤ t.heap.size → (∀ q : Nat, q < H.size → t.heap[q]? = H[q]?) → XC cls s t)
    (hf : ∀ z ∈ locs, free z.base) (hc : cells + 1 ≤ mc) (hs : slots + 6 ≤ ms) :
    W p l e R s m args below meth c H locs cells slots (vx_MQ below Qc XC args s mc ms free) (F0 m pc ls rest) := by
  intro T hT X
  have htr : e.platform.stackTraces = false := (show e.platform.stackTraces = l.stackTraces by rw [X.admits.platform]).trans hl
  have Y := vx_rebase X (R' := { frames := R.frames, locals := R.locals, cells := 1, slots := 6 }) (Nat.le_refl _) (Nat.le_refl _) hRcells hRslots
  obtain ⟨s', hA⟩ : ∃ z, z = (T.setVm s.vm).setFrames (.invoking m args :: below) := ⟨_, rfl⟩
  rw [← hA] at Y
  have hvm : s'.vm = s.vm := by rw [hA]; rfl
  have hhp : s'.heap = H := by rw [hA]; exact hT
  have hW0 : s.WarmedH s'.vm := by rw [hvm]; exact State.WarmedH.refl s
  have hat' : ∀ w ∈ vx_at0 own ic cls names, w.before args s' = true := fun w hw => vx_ot_at hW0 hvm.symm (hgood w (List.mem_cons_of_mem _ (List.mem_cons_of_mem _ hw))) (hat w hw)
  have hk' : (Cond.classLink own ik cls).before args s' = true := vx_ot_at hW0 hvm.symm (hgood _ List.mem_cons_self) hk
  have hini' : (Cond.initialized cls).before args s' = true := vx_ot_at hW0 hvm.symm (hgood _ (List.mem_cons_of_mem _ List.mem_cons_self)) hini
  have hU' : vx_Zq Bundle.tN "UNASSIGNED_STACK" Bundle.steD A s' s'.heap := by rw [hhp]; exact vx_Zq.moved hW0.alike (hU.kept hS.2.1)
  have hN' : vx_Zq Bundle.tN "SUPPRESSED_SENTINEL" Bundle.listD A s' s'.heap := by rw [hhp]; exact vx_Zq.moved hW0.alike (hN.kept hS.2.1)
  have h : ∀ w ∈ Bundle.ownAtoms0 own ic cls names, w.before args s' = true := vx_own hat' (vx_isRefq hU'.1) (vx_isRefq hN'.1) hU'.2.word hN'.2.word
  have hown' : s'.vm.findClass own = some m.cls := by rw [hvm]; exact hown
  have hins : (Cond.instantiable cls 6).before args s' = true := h _ (by simp [Bundle.ownAtoms0])
  obtain ⟨vm₁, cX, kX, hfX, hkX, -, -, X₁, st1⟩ := Y.newCold hexec (own := own) (C := cls) (index := ik) (n := 6) hown' hk' hins hini'
    (g := F0 m pc ls rest) rfl (by rw [hb]; exact d0) (Nat.le_refl _) (Nat.le_refl _)
  generalize hT1 : (T.setVm vm₁).pushCell { cls := cX, slots := kX.instanceTypes.map defaultValue, vm := .none } = T1 at X₁ st1
  have hcat : (Value.ref T.heap.size).category = 1 := rfl
  have hcellA : T1.heap[T.heap.size]? = some (freshCell cX kX) := by rw [← hT1]; exact State.heap_pushCell_size _ _
  have d3' : decode c.code (pc + 3) = .ok (.dup, 1) := by rw [hb]; exact d3
  obtain ⟨U, hsteps, hrun, hend, hW, hsame, ce, hce, hO⟩ := X₁.ctorThrow0 hexec htr (own := own) (cls := cls) (names := names) (ic := ic) hown' hcls hnames h (fun x hx => nomatch hx) hfX hkX hcellA (by rw [hhp, hT]; exact Nat.le_refl _)
    (g := { method := m, pc := pc + 4, locals := ls, stack := .ref T.heap.size :: .ref T.heap.size :: rest, locked := none }) rfl hsize rfl rfl (rest := rest) rfl
    (by rw [hb]; exact d4) (by rw [hb]; exact d7) hout hRframes (by simp only [List.map_cons, List.sum_cons, hcat]; omega) hlocks
  obtain ⟨f1, f2⟩ := vx_frame hsame
  rw [hhp] at f1 f2
  have hWs : s.WarmedH U.vm := State.WarmedH.trans hW0 hW
  have hcl : s.vm.findClass cls = some ce.cls := by
    have h9 := hO.cls
    rw [hvm] at h9
    exact h9
  have hall : s.sameButNew ({ U with vm := s.vm } : State) locs mc ms := by
    subst hA
    obtain ⟨e1, e2⟩ := hsame
    rw [State.setFrames_setFrames] at e1
    have h2 : (T.setVm s.vm).sameButNew ({ U with vm := s.vm } : State) [] (0 + 1) (0 + 6) := ⟨e1, e2⟩
    have h3 := X.same.trans h2
    rw [List.append_nil] at h3
    exact h3.mono hc hs
  refine ⟨U, ?_, .threw T.heap.size, hrun, hend, Or.inr ⟨T.heap.size, rfl, cls, ce, locs, hx U hWs.alike f1 (fun q hq => f2 q hq (fun z hz => nomatch hz)), hce, hO.vm, hcl, hWs, hall, hf⟩⟩
  refine st1 _ ?_
  show Steps p.tables e below (T1.setTop { method := m, pc := pc + 3, locals := ls, stack := .ref T.heap.size :: rest, locked := none }) _
  jvm_step X₁.here [X₁.here.top, hexec, d3', Value.category]
  exact hsteps
/-- 'throw new E("text")': new; dup; ldc; invokespecial; athrow -/
theorem vx_throwS {cc : ByteArray} {pc : Nat} (hexec : p.tables.exec = Jvm.exec) (hb : c.code = cc) (hl : l.stackTraces = false) {own cls text : String} {names : List String} {ik is ic mc ms sa : Nat} {A : Nat → Prop}
    (hown : s.vm.findClass own = some m.cls) (hcls : Bundle.fit cls = true) (hnames : ∀ n ∈ names, Bundle.fit n = true)
    (hk : (Cond.classLink own ik cls).before args s = true) (hini : (Cond.initialized cls).before args s = true) (hstr : vk_R own is text sa s) (hat : ∀ w ∈ vx_atS own ic cls names, w.before args s = true)
    (hgood : ∀ w ∈ Cond.classLink own ik cls :: Cond.initialized cls :: vx_atS own ic cls names, vx_ot w = true)
    (hU : vx_Zq Bundle.tN "UNASSIGNED_STACK" Bundle.steD A s s.heap) (hN : vx_Zq Bundle.tN "SUPPRESSED_SENTINEL" Bundle.listD A s s.heap) (hS : va_S A s.heap H locs) (hsize : ls.size = c.maxLocals)
    (d0 : decode cc pc = .ok (.new ik, 3)) (d3 : decode cc (pc + 3) = .ok (.dup, 1)) (d4 : decode cc (pc + 4) = .ok (.ldc is, 2)) (d6 : decode cc (pc + 6) = .ok (.invokespecial ic, 3)) (d9 : decode cc (pc + 9) = .ok (.athrow, 1))
    (hout : ∀ x ∈ c.exceptionTable.toList, covers x (pc + 9) = false)
    (hRframes : names.length + 3 < R.frames) (hRlocals : (rest.map fun v => v.category).sum + (13 * (names.length + 1) + 43) ≤ R.locals) (hRcells : cells + 1 ≤ R.cells) (hRslots : slots + 6 ≤ R.slots) (hlocks : meth.locks = false)
    (hx : ∀ t : State, s.vm.Alike t.vm → H.size ≤ t.heap.size → (∀ q : Nat, q < H.size → t.heap[q]? = H[q]?) → XC cls s t)
    (hf : ∀ z ∈ locs, free z.base) (hc : cells + 1 ≤ mc) (hs : slots + 6 ≤ ms) :
    W p l e R s m args below meth c H locs cells slots (vx_MQ below Qc XC args s mc ms free) (F0 m pc ls rest) := by
  intro T hT X
  have htr : e.platform.stackTraces = false := (show e.platform.stackTraces = l.stackTraces by rw [X.admits.platform]).trans hl
  have Y := vx_rebase X (R' := { frames := R.frames, locals := R.locals, cells := 1, slots := 6 }) (Nat.le_refl _) (Nat.le_refl _) hRcells hRslots
  obtain ⟨s', hA⟩ : ∃ z, z = (T.setVm s.vm).setFrames (.invoking m args :: below) := ⟨_, rfl⟩
  rw [← hA] at Y
  have hvm : s'.vm = s.vm := by rw [hA]; rfl
  have hhp : s'.heap = H := by rw [hA]; exact hT
  have hW0 : s.WarmedH s'.vm := by rw [hvm]; exact State.WarmedH.refl s
  have hat' : ∀ w ∈ vx_atS own ic cls names, w.before args s' = true := fun w hw => vx_ot_at hW0 hvm.symm (hgood w (List.mem_cons_of_mem _ (List.mem_cons_of_mem _ hw))) (hat w hw)
  have hk' : (Cond.classLink own ik cls).before args s' = true := vx_ot_at hW0 hvm.symm (hgood _ List.mem_cons_self) hk
  have hini' : (Cond.initialized cls).before args s' = true := vx_ot_at hW0 hvm.symm (hgood _ (List.mem_cons_of_mem _ List.mem_cons_self)) hini
  have hU' : vx_Zq Bundle.tN "UNASSIGNED_STACK" Bundle.steD A s' s'.heap := by rw [hhp]; exact vx_Zq.moved hW0.alike (hU.kept hS.2.1)
  have hN' : vx_Zq Bundle.tN "SUPPRESSED_SENTINEL" Bundle.listD A s' s'.heap := by rw [hhp]; exact vx_Zq.moved hW0.alike (hN.kept hS.2.1)
  have h : ∀ w ∈ Bundle.ownAtoms own ic cls names, w.before args s' = true := vx_own hat' (vx_isRefq hU'.1) (vx_isRefq hN'.1) hU'.2.word hN'.2.word
  have hown' : s'.vm.findClass own = some m.cls := by rw [hvm]; exact hown
  have hins : (Cond.instantiable cls 6).before args s' = true := h _ (by simp [Bundle.ownAtoms])
  obtain ⟨vm₁, cX, kX, hfX, hkX, -, -, X₁, st1⟩ := Y.newCold hexec (own := own) (C := cls) (index := ik) (n := 6) hown' hk' hins hini'
    (g := F0 m pc ls rest) rfl (by rw [hb]; exact d0) (Nat.le_refl _) (Nat.le_refl _)
  generalize hT1 : (T.setVm vm₁).pushCell { cls := cX, slots := kX.instanceTypes.map defaultValue, vm := .none } = T1 at X₁ st1
  have hcat : (Value.ref T.heap.size).category = 1 := rfl
  have hcellA : T1.heap[T.heap.size]? = some (freshCell cX kX) := by rw [← hT1]; exact State.heap_pushCell_size _ _
  have d3' : decode c.code (pc + 3) = .ok (.dup, 1) := by rw [hb]; exact d3
  have d4' : decode c.code (pc + 4) = .ok (.ldc is, 2) := by rw [hb]; exact d4
  have hstr' : vk_R own is text sa s' := vk_R.warm hW0 hstr
  obtain ⟨U, hsteps, hrun, hend, hW, hsame, ce, hce, hO⟩ := X₁.ctorThrowS hexec htr (own := own) (cls := cls) (names := names) (ic := ic) hown' hcls hnames h (fun x hx => nomatch hx) hfX hkX hcellA (by rw [hhp, hT]; exact Nat.le_refl _) (msg := .ref sa) rfl
    (g := { method := m, pc := pc + 6, locals := ls, stack := .ref sa :: .ref T.heap.size :: .ref T.heap.size :: rest, locked := none }) rfl hsize rfl rfl (rest := rest) rfl
    (by rw [hb]; exact d6) (by rw [hb]; exact d9) hout hRframes (by simp only [List.map_cons, List.sum_cons, hcat]; omega) hlocks
  obtain ⟨f1, f2⟩ := vx_frame hsame
  rw [hhp] at f1 f2
  have hWs : s.WarmedH U.vm := State.WarmedH.trans hW0 hW
  have hcl : s.vm.findClass cls = some ce.cls := by
    have h9 := hO.cls
    rw [hvm] at h9
    exact h9
  have hall : s.sameButNew ({ U with vm := s.vm } : State) locs mc ms := by
    subst hA
    obtain ⟨e1, e2⟩ := hsame
    rw [State.setFrames_setFrames] at e1
    have h2 : (T.setVm s.vm).sameButNew ({ U with vm := s.vm } : State) [] (0 + 1) (0 + 6) := ⟨e1, e2⟩
    have h3 := X.same.trans h2
    rw [List.append_nil] at h3
    exact h3.mono hc hs
  refine ⟨U, ?_, .threw T.heap.size, hrun, hend, Or.inr ⟨T.heap.size, rfl, cls, ce, locs, hx U hWs.alike f1 (fun q hq => f2 q hq (fun z hz => nomatch hz)), hce, hO.vm, hcl, hWs, hall, hf⟩⟩
  refine st1 _ ?_
  show Steps p.tables e below (T1.setTop { method := m, pc := pc + 3, locals := ls, stack := .ref T.heap.size :: rest, locked := none }) _
  jvm_step X₁.here [X₁.here.top, hexec, d3', Value.category]
  exact X₁.ldcString hexec (own := own) (text := text) (index := is) (a := sa) hown' hstr'.1 hstr'.2
    (g := { method := m, pc := pc + 4, locals := ls, stack := .ref T.heap.size :: .ref T.heap.size :: rest, locked := none }) rfl d4' _ hsteps
/-- 'throw new E("text")', the text by a wide index -/
theorem vx_throwSW {cc : ByteArray} {pc : Nat} (hexec : p.tables.exec = Jvm.exec) (hb : c.code = cc) (hl : l.stackTraces = false) {own cls text : String} {names : List String} {ik is ic mc ms sa : Nat} {A : Nat → Prop}
    (hown : s.vm.findClass own = some m.cls) (hcls : Bundle.fit cls = true) (hnames : ∀ n ∈ names, Bundle.fit n = true)
    (hk : (Cond.classLink own ik cls).before args s = true) (hini : (Cond.initialized cls).before args s = true) (hstr : vk_R own is text sa s) (hat : ∀ w ∈ vx_atS own ic cls names, w.before args s = true)
    (hgood : ∀ w ∈ Cond.classLink own ik cls :: Cond.initialized cls :: vx_atS own ic cls names, vx_ot w = true)
    (hU : vx_Zq Bundle.tN "UNASSIGNED_STACK" Bundle.steD A s s.heap) (hN : vx_Zq Bundle.tN "SUPPRESSED_SENTINEL" Bundle.listD A s s.heap) (hS : va_S A s.heap H locs) (hsize : ls.size = c.maxLocals)
    (d0 : decode cc pc = .ok (.new ik, 3)) (d3 : decode cc (pc + 3) = .ok (.dup, 1)) (d4 : decode cc (pc + 4) = .ok (.ldc_w is, 3)) (d7 : decode cc (pc + 7) = .ok (.invokespecial ic, 3)) (d10 : decode cc (pc + 10) = .ok (.athrow, 1))
    (hout : ∀ x ∈ c.exceptionTable.toList, covers x (pc + 10) = false)
    (hRframes : names.length + 3 < R.frames) (hRlocals : (rest.map fun v => v.category).sum + (13 * (names.length + 1) + 43) ≤ R.locals) (hRcells : cells + 1 ≤ R.cells) (hRslots : slots + 6 ≤ R.slots) (hlocks : meth.locks = false)
    (hx : ∀ t : State, s.vm.Alike t.vm → H.size ≤ t.heap.size → (∀ q : Nat, q < H.size → t.heap[q]? = H[q]?) → XC cls s t)
    (hf : ∀ z ∈ locs, free z.base) (hc : cells + 1 ≤ mc) (hs : slots + 6 ≤ ms) :
    W p l e R s m args below meth c H locs cells slots (vx_MQ below Qc XC args s mc ms free) (F0 m pc ls rest) := by
  intro T hT X
  have htr : e.platform.stackTraces = false := (show e.platform.stackTraces = l.stackTraces by rw [X.admits.platform]).trans hl
  have Y := vx_rebase X (R' := { frames := R.frames, locals := R.locals, cells := 1, slots := 6 }) (Nat.le_refl _) (Nat.le_refl _) hRcells hRslots
  obtain ⟨s', hA⟩ : ∃ z, z = (T.setVm s.vm).setFrames (.invoking m args :: below) := ⟨_, rfl⟩
  rw [← hA] at Y
  have hvm : s'.vm = s.vm := by rw [hA]; rfl
  have hhp : s'.heap = H := by rw [hA]; exact hT
  have hW0 : s.WarmedH s'.vm := by rw [hvm]; exact State.WarmedH.refl s
  have hat' : ∀ w ∈ vx_atS own ic cls names, w.before args s' = true := fun w hw => vx_ot_at hW0 hvm.symm (hgood w (List.mem_cons_of_mem _ (List.mem_cons_of_mem _ hw))) (hat w hw)
  have hk' : (Cond.classLink own ik cls).before args s' = true := vx_ot_at hW0 hvm.symm (hgood _ List.mem_cons_self) hk
  have hini' : (Cond.initialized cls).before args s' = true := vx_ot_at hW0 hvm.symm (hgood _ (List.mem_cons_of_mem _ List.mem_cons_self)) hini
  have hU' : vx_Zq Bundle.tN "UNASSIGNED_STACK" Bundle.steD A s' s'.heap := by rw [hhp]; exact vx_Zq.moved hW0.alike (hU.kept hS.2.1)
  have hN' : vx_Zq Bundle.tN "SUPPRESSED_SENTINEL" Bundle.listD A s' s'.heap := by rw [hhp]; exact vx_Zq.moved hW0.alike (hN.kept hS.2.1)
  have h : ∀ w ∈ Bundle.ownAtoms own ic cls names, w.before args s' = true := vx_own hat' (vx_isRefq hU'.1) (vx_isRefq hN'.1) hU'.2.word hN'.2.word
  have hown' : s'.vm.findClass own = some m.cls := by rw [hvm]; exact hown
  have hins : (Cond.instantiable cls 6).before args s' = true := h _ (by simp [Bundle.ownAtoms])
  obtain ⟨vm₁, cX, kX, hfX, hkX, -, -, X₁, st1⟩ := Y.newCold hexec (own := own) (C := cls) (index := ik) (n := 6) hown' hk' hins hini'
    (g := F0 m pc ls rest) rfl (by rw [hb]; exact d0) (Nat.le_refl _) (Nat.le_refl _)
  generalize hT1 : (T.setVm vm₁).pushCell { cls := cX, slots := kX.instanceTypes.map defaultValue, vm := .none } = T1 at X₁ st1
  have hcat : (Value.ref T.heap.size).category = 1 := rfl
  have hcellA : T1.heap[T.heap.size]? = some (freshCell cX kX) := by rw [← hT1]; exact State.heap_pushCell_size _ _
  have d3' : decode c.code (pc + 3) = .ok (.dup, 1) := by rw [hb]; exact d3
  have d4' : decode c.code (pc + 4) = .ok (.ldc_w is, 3) := by rw [hb]; exact d4
  have hstr' : vk_R own is text sa s' := vk_R.warm hW0 hstr
  obtain ⟨U, hsteps, hrun, hend, hW, hsame, ce, hce, hO⟩ := X₁.ctorThrowS hexec htr (own := own) (cls := cls) (names := names) (ic := ic) hown' hcls hnames h (fun x hx => nomatch hx) hfX hkX hcellA (by rw [hhp, hT]; exact Nat.le_refl _) (msg := .ref sa) rfl
    (g := { method := m, pc := pc + 7, locals := ls, stack := .ref sa :: .ref T.heap.size :: .ref T.heap.size :: rest, locked := none }) rfl hsize rfl rfl (rest := rest) rfl
    (by rw [hb]; exact d7) (by rw [hb]; exact d10) hout hRframes (by simp only [List.map_cons, List.sum_cons, hcat]; omega) hlocks
  obtain ⟨f1, f2⟩ := vx_frame hsame
  rw [hhp] at f1 f2
  have hWs : s.WarmedH U.vm := State.WarmedH.trans hW0 hW
  have hcl : s.vm.findClass cls = some ce.cls := by
    have h9 := hO.cls
    rw [hvm] at h9
    exact h9
  have hall : s.sameButNew ({ U with vm := s.vm } : State) locs mc ms := by
    subst hA
    obtain ⟨e1, e2⟩ := hsame
    rw [State.setFrames_setFrames] at e1
    have h2 : (T.setVm s.vm).sameButNew ({ U with vm := s.vm } : State) [] (0 + 1) (0 + 6) := ⟨e1, e2⟩
    have h3 := X.same.trans h2
    rw [List.append_nil] at h3
    exact h3.mono hc hs
  refine ⟨U, ?_, .threw T.heap.size, hrun, hend, Or.inr ⟨T.heap.size, rfl, cls, ce, locs, hx U hWs.alike f1 (fun q hq => f2 q hq (fun z hz => nomatch hz)), hce, hO.vm, hcl, hWs, hall, hf⟩⟩
  refine st1 _ ?_
  show Steps p.tables e below (T1.setTop { method := m, pc := pc + 3, locals := ls, stack := .ref T.heap.size :: rest, locked := none }) _
  jvm_step X₁.here [X₁.here.top, hexec, d3', Value.category]
  exact X₁.ldcStringW hexec (own := own) (text := text) (index := is) (a := sa) hown' hstr'.1 hstr'.2
    (g := { method := m, pc := pc + 4, locals := ls, stack := .ref T.heap.size :: .ref T.heap.size :: rest, locked := none }) rfl d4' _ hsteps
end Ends
section Bodies
variable {l : Launch}
theorem vx_ofW {y : MethodName} {ws ws' : List Cond} {rm : Room} {Pc : Array Value → State → Prop} {Qc : Array Value → State → Outcome → State → Prop} {XC : String → State → State → Prop} {mc ms : Nat} {free : Addr → Prop} {cc : ByteArray} {maxL : Nat} {ret : Option FieldType}
    (hy : plainName y.cls = true) (hw : ws = Cond.code y cc maxL ret :: ws')
    (body : ∀ p e s m args below meth c s₁, BodyLoose p l y (headSpec ws rm) cc maxL ret e s m args below meth c s₁ → c.maxLocals = maxL → (∀ x ∈ c.exceptionTable.toList, False) → Pc args s →
      W p l e (headSpec ws rm).room s m args below meth c s.heap [] 0 0 (vx_MQ below Qc XC args s mc ms free) (entryFrame m args maxL)) : vx_Met l y ws rm Pc Qc XC mc ms free := by
  refine MetFree.of_bodyS (code := cc) (maxLocals := maxL) (ret := ret) hy ?_ ?_
  · intro args s m h hn
    obtain ⟨meth, c, h1, h2, h3, h4, h5, h6, -, -⟩ := Cond.code_spec hn (atoms_spec (ws := ws) h _ (by rw [hw]; exact List.mem_cons_self))
    exact ⟨meth, c, h1, h2, h3, h4, h5, h6⟩
  · intro p e s m args below meth c s₁ B hml hP _
    have hh0 : s₁.heap = s.heap := by rw [B.state]; rfl
    have ht : ∀ x ∈ c.exceptionTable.toList, False := by
      obtain ⟨meth9, c9, h1, h2, -, -, -, -, h7, -⟩ := Cond.code_spec B.named (atoms_spec (ws := ws) B.pre _ (by rw [hw]; exact List.mem_cons_self))
      cases Option.some.inj (h1.symm.trans B.method)
      cases Option.some.inj (h2.symm.trans (Stand.of_body B).code)
      intro x hx
      rw [Array.isEmpty_iff.mp h7] at hx
      cases hx
    obtain ⟨t, a1, o, b1, b2, b3⟩ := body p e s m args below meth c s₁ B hml ht hP s₁ hh0 (Stand.of_body B)
    exact ⟨t, o, a1, b1, b2, b3⟩
/-- the table of a body with handlers -/
theorem vx_table {p : Program} {x y : MethodName} {S : Spec} {cc bytes : ByteArray} {maxL maxL' : Nat} {ret ret' : Option FieldType} {e : Env} {s s₁ : State} {m : MethodId} {args : Array Value} {below : List Frame} {meth : Method} {c : Code} {hh : List (Nat × Nat × Nat × Nat)}
    (B : BodyLoose p l y S cc maxL ret e s m args below meth c s₁) (h : (Cond.codeWith y bytes maxL' ret' hh).before args s = true) : c.exceptionTable.toList = tableOf hh := by
  obtain ⟨m9, meth9, c9, hn9, h1, h2, -, -, h6, -⟩ := Cond.codeWith_spec h
  cases Option.some.inj (hn9.symm.trans B.named)
  cases Option.some.inj (h1.symm.trans B.method)
  cases Option.some.inj (h2.symm.trans (Stand.of_body B).code)
  rw [← h6, table_eq]
end Bodies
end VXA
/-! ===== END ===== -/
/-! ===== BEGIN a static call of a method with an exception table ===== -/
section VXS
variable {p : Program} {l : Launch} {e : Env} {R : Room} {s : State} {m : MethodId} {args : Array Value} {below : List Frame} {meth : Method} {c : Code} {T : State} {H : Heap} {locs : List Loc} {cells slots : Nat}
abbrev vx_CSW (R : Room) (s : State) (args : Array Value) (own : String) (index : Nat) (y : MethodName) (bytes : ByteArray) (maxL : Nat) (ret : Option FieldType) (hh : List (Nat × Nat × Nat × Nat)) (ws : List Cond) (rm : Room) (mc ms n : Nat) : Prop :=
  (rm.cells = mc ∧ rm.slots = ms ∧ rm.frames + 1 ≤ R.frames ∧ 8 + (maxL + 11) + rm.locals ≤ R.locals ∧ (∀ w ∈ ws, ∀ (a' : Array Value) (U : State), s.WarmedH U.vm → w.before a' U = true) ∧ Cond.codeWith y bytes maxL ret hh ∈ ws) ∧
  (Cond.codeWith y bytes maxL ret hh).before args s = true ∧ (Cond.initialized y.cls).before args s = true ∧ (y.cls ≠ "java/lang/invoke/MethodHandle" ∧ y.cls ≠ "java/lang/invoke/VarHandle") ∧
  (∀ sig, parseMethodDescriptor y.desc = some sig → n = sig.parameters.length) ∧ (Cond.methodLink own index y).before args s = true ∧ (Cond.static y).before args s = true
theorem vx_cwSW {own : String} {index maxL mc ms : Nat} {y : MethodName} {bytes : ByteArray} {ret : Option FieldType} {hh : List (Nat × Nat × Nat × Nat)} {Ts ws ws' : List Cond} {rm : Room} (n : Nat) (ht : ∀ w ∈ Ts, w.before args s = true) (hT : GoodIn Ts (va_wsS own index y ws)) (hw : ws = Cond.codeWith y bytes maxL ret hh :: ws') (hrc : rm.cells = mc) (hrs : rm.slots = ms)
    (hd : y.cls ≠ "java/lang/invoke/MethodHandle" ∧ y.cls ≠ "java/lang/invoke/VarHandle" ∧ (parseMethodDescriptor y.desc).map (fun d => d.parameters.length) = some n) (hR : rm.frames + 1 ≤ R.frames ∧ 8 + (maxL + 11) + rm.locals ≤ R.locals) :
    vx_CSW R s args own index y bytes maxL ret hh ws rm mc ms n := by
  have ok : ∀ w ∈ va_wsS own index y ws, w.before args s = true := fun w h => ht w (hT w h).1
  have hG : GoodIn Ts ws := fun w h => hT w (by unfold va_wsS; exact List.mem_append_right _ h)
  have hc : Cond.codeWith y bytes maxL ret hh ∈ ws := by rw [hw]; exact List.mem_cons_self
  refine ⟨⟨hrc, hrs, hR.1, hR.2, pay_in ht hG, hc⟩, ht _ (hG _ hc).1, ok _ (by simp [va_wsS]), ⟨hd.1, hd.2.1⟩, fun sig h => ?_, ok _ (by simp [va_wsS]), ok _ (by simp [va_wsS])⟩
  have h2 := hd.2.2
  rw [h] at h2
  exact (Option.some.inj h2).symm
theorem vx_callSW (X : Stand p l e R s m args below meth c T locs cells slots) (hexec : p.tables.exec = Jvm.exec) {own : String} {index : Nat} {y : MethodName} {bytes : ByteArray} {maxL : Nat} {ret : Option FieldType} {hh : List (Nat × Nat × Nat × Nat)}
    (hown : s.vm.findClass own = some m.cls) (hlink : (Cond.methodLink own index y).before args s = true) (hstat : (Cond.static y).before args s = true) (hinit : (Cond.initialized y.cls).before args s = true)
    (hcode : (Cond.codeWith y bytes maxL ret hh).before args s = true) (hy : y.cls ≠ "java/lang/invoke/MethodHandle" ∧ y.cls ≠ "java/lang/invoke/VarHandle")
    {W9 : Nat} {Pre : Pt → Array Value → Prop} {Post : Pt → Array Value → Option Value → Pt → Prop} (hK : Back l R p e below s args y 3 W9 Pre Post)
    {g : JFrame} (hg : g.method = m) (hsize : g.locals.size = c.maxLocals) {argsL rest : List Value} (hlen : ∀ sig, parseMethodDescriptor y.desc = some sig → argsL.length = sig.parameters.length)
    (hstack : g.stack = argsL.reverse ++ rest) (hW : 2 * g.monitorRoom + (rest.map fun v => v.category).sum ≤ W9) (hdg : decode c.code g.pc = .ok (.invokestatic index, 3))
    (hpre : ∀ vm₁, s.WarmedH vm₁ → Pre ⟨T.setVm vm₁, locs, cells, slots⟩ argsL.toArray) :
    ∃ (v : Option Value) (vm₁ : Vm) (B : Pt), s.WarmedH vm₁ ∧ Stand p l e R s m args below meth c B.U B.locs B.cells B.slots ∧ Post ⟨T.setVm vm₁, locs, cells, slots⟩ argsL.toArray v B ∧
      ∀ target, Steps p.tables e below (B.U.setTop { g with pc := g.pc + 3, stack := v.toList ++ rest }) target → Steps p.tables e below (T.setTop g) target := by
  obtain ⟨mk, methM, cM, hnamed, hmethM, -, -, -, -, -, -, hsigM⟩ := Cond.codeWith_spec hcode
  have hstatic : methM.isStatic = true := Cond.static_spec hnamed hmethM hstat
  obtain ⟨kP, hkP, -⟩ := className_of_methodNamed hnamed
  have hinitP : kP.init = .initialized := Cond.initialized_spec (findClass_of_methodNamed hnamed) hkP hinit
  obtain ⟨vm₁, X₁, hstep₁⟩ := X.invokestatic hexec hown hlink hnamed hmethM hstatic hkP hinitP hy (g := g) hg (argsL := argsL) (rest := rest) (hlen _ hsigM) hstack hdg
  obtain ⟨v, B, X', hpost, hsteps⟩ := hK m meth c ⟨T.setVm vm₁, locs, cells, slots⟩ { g with stack := rest } (.invokestatic index) mk argsL.toArray X₁ hg hsize hdg hW (X₁.named hnamed) (hpre vm₁ X₁.warmed)
  exact ⟨v, vm₁, B, X₁.warmed, X', hpost, fun target h => hstep₁ _ fun acts => by rw [doInvoke_state]; exact hsteps.trans h⟩
theorem vx_runSW {y : MethodName} {bytes cc : ByteArray} {maxL nL mc ms n index : Nat} {ret : Option FieldType} {hh : List (Nat × Nat × Nat × Nat)} {ws : List Cond} {rm : Room} {Pc : Array Value → State → Prop} {Qc : Array Value → State → Outcome → State → Prop} {free : Addr → Prop} {Ts : List Cond} {own : String} {As rest : List Value} {g : JFrame}
    (S : CallFix p m c cc nL s args Ts own) (hM : Met l y ws rm Pc Qc mc ms free) (cw : vx_CSW R s args own index y bytes maxL ret hh ws rm mc ms n) (hp : PreS s H Pc As)
    (hg : g.method = m) (hn : As.length = n) (hsize : g.locals.size = nL) (hstack : g.stack = As.reverse ++ rest) (hW : 2 * g.monitorRoom + (rest.map fun v => v.category).sum ≤ 8) (hdg : decode cc g.pc = .ok (.invokestatic index, 3)) (hf : cells + mc ≤ R.cells ∧ slots + ms ≤ R.slots) :
    va_Run p l e R s m args below meth c H locs cells slots mc ms g rest (Qc As.toArray) (free) := by
  obtain ⟨⟨hrc, hrs, hfr, hlo, hws, hcw⟩, hcode, hini, hy, hlen, hl, hstt⟩ := cw
  have hK : Back l R p e below s args y 3 8 (PreOf R mc ms Pc) (PostOf Qc mc ms free) := va_backW (hh := hh) (bytes := bytes) (maxL := maxL) (ret := ret) hM hp.1 hrc hrs hfr hlo hws hcw (fun a' U hW => word_at hW (Or.inl (by first | rfl | simp [Cond.onTables, Cond.keeps, Cond.steady])) hini)
  obtain ⟨hx, hb, hml, ho, -⟩ := S
  intro T hT X
  obtain ⟨v, vm₁, ⟨U', l2, c2, s2⟩, hW₁, X', ⟨g', mk, t, L, e1, e2, hq, h1, hL, h2, h3⟩, st⟩ := vx_callSW X hx (hh := hh) (bytes := bytes) (maxL := maxL) (ret := ret) ho hl hstt hini hcode hy hK hg (hsize.trans hml.symm) (argsL := As) (rest := rest) (fun sig h => hn.trans (hlen sig h)) hstack hW (by rw [hb]; exact hdg)
    (fun vm₁ hW₁ => ⟨hf.1, hf.2, hp.2 (T.setVm vm₁) hT hW₁⟩)
  dsimp only [Pt.U, Pt.locs, Pt.cells, Pt.slots] at X' e1 e2 h1 h2 h3 st
  subst h1; subst h2; subst h3
  exact ⟨v, (T.setVm vm₁).calling g' mk As.toArray, t, U', L, hT, X', hL, e1, e2, hq, st⟩
/-- not caught here, past rows that name other classes: it goes on to the caller -/
theorem vx_outP {p : Program} {l : Launch} {e : Env} {R : Room} {s : State} {m : MethodId} {args : Array Value} {below : List Frame} {meth : Method} {c : Code} {H : Heap} {locs : List Loc} {cells slots : Nat} {free : Addr → Prop} {ls : Array Slot} {rest : List Value} {Qc : Array Value → State → Outcome → State → Prop} {XC : String → State → State → Prop}
    {pc : Nat} {own E : String} {ce : Cell} {q : Addr} {mc ms : Nat} (hown : s.vm.findClass own = some m.cls) (hlocks : meth.locks = false)
    (hpass : ∀ z ∈ c.exceptionTable.toList, covers z pc = false ∨ (z.catchType ≠ 0 ∧ ∃ nm : String, (Cond.classLink own z.catchType nm).before args s = true ∧ va_Nc E nm s)) (hcell : H[q]? = some ce) (hv : ce.vm = .none) (hcl : s.vm.findClass E = some ce.cls)
    (hx : ∀ t : State, t.heap = H → s.vm.Alike t.vm → XC E s t) (hf : ∀ z ∈ locs, free z.base) (hc : cells ≤ mc) (hs : slots ≤ ms) :
    vx_W p l e R s m args below meth c H locs cells slots (vx_MQ below Qc XC args s mc ms free) (F0 m pc ls rest) q := by
  intro T hT X
  have hpl : e.platform.magicAccessors = ({} : Platform).magicAccessors := by rw [X.admits.platform]
  obtain ⟨vm', hW', X', st⟩ := X.outThrough hlocks q (g := F0 m pc ls rest) rfl rfl rfl (cell := ce) (by rw [hT]; exact hcell) (by rw [hv]; rfl)
    (by obtain ⟨k9, h9, -⟩ := Vm.findClass_spec hcl; exact ⟨k9, h9⟩) (fun z hz => by
      rcases hpass z hz with h | ⟨hz0, nm, hl1, hn1⟩
      · exact Or.inl h
      · obtain ⟨c6, hc6, hcl6⟩ := Cond.classLink_spec hown hl1 e.platform hpl
        obtain ⟨a8, b8, h1, h2, h3⟩ := hn1
        cases Option.some.inj (h1.symm.trans hcl)
        cases Option.some.inj (h2.symm.trans hc6)
        exact Or.inr ⟨hz0, _, hcl6, h3⟩)
  obtain ⟨g₀, hfr⟩ := X'.frames_eq
  have hcell9 : ((T.setVm vm').setFrames (.throwing q :: below)).heap[q]? = some ce := by
    show T.heap[q]? = some ce
    rw [hT]; exact hcell
  have hend : Ended ((T.setVm vm').setFrames (.throwing q :: below)) below (.threw q) := State.frames_setFrames _ (State.cur_lt_of_frames hfr)
  refine ⟨(T.setVm vm').setFrames (.throwing q :: below), ?_, .threw q, X'.here.running, hend, Or.inr ⟨q, rfl, E, ce, locs, hx _ hT (X'.ends _).1.alike, hcell9, hv, hcl, (X'.ends _).1, (X'.ends _).2.mono hc hs, hf⟩⟩
  rw [X.pushThrowing_eq]
  exact st
/-- a thing of a world lies in the heap -/
theorem vx_lt {D : va_G} {cl : List vw_C} {ws : va_W} {H1 : Heap} (h : va_P D cl ws H1) {k : Nat} {q : Nat × va_E} (hk : ws[k]? = some q) : q.1 < H1.size := (h k q hk).lt
end VXS
/-! ===== END ===== -/
/-! ===== BEGIN methods with a table of their own: called by a name, returning or throwing ===== -/
section VXH
/-! vx_backW, vx_callVX, vx_callSX, vx_callVW, vx_runVW, vx_runVX, vx_runSX, vx_ofWH follow the same proofs as their sisters above (Free/Laws.lean, Shelf42/LK1.lean); vx_outP calls Shelf42/NT130.lean (outThrough). -/
section
variable {l : Launch} {R : Room} {p : Program} {e : Env} {below : List Frame} {s : State} {sargs : Array Value} {y : MethodName} {len W9 : Nat}
theorem vx_backW {ws : List Cond} {rm : Room} {Pc : Array Value → State → Prop} {Qc : Array Value → State → Outcome → State → Prop} {XC : String → State → State → Prop} {mc ms : Nat} {free : Addr → Prop} {bytes : ByteArray} {maxL : Nat} {ret : Option FieldType} {hh : List (Nat × Nat × Nat × Nat)}
    (hM : vx_Met l y ws rm Pc Qc XC mc ms free) (hblind : FrameBlind Pc) (hrc : rm.cells = mc) (hrs : rm.slots = ms)
    (hframes : rm.frames + 1 ≤ R.frames) (hlocals : W9 + (maxL + 11) + rm.locals ≤ R.locals)
    (hws : ∀ w ∈ ws, ∀ a' U, s.WarmedH U.vm → w.before a' U = true) (hcode : Cond.codeWith y bytes maxL ret hh ∈ ws) (hinit : ∀ a' U, s.WarmedH U.vm → (Cond.initialized y.cls).before a' U = true) :
    vx_Back l R p e below s sargs y len W9 (PreOf R mc ms Pc) (PostOf Qc mc ms free) (vx_Post XC mc ms free) := by
  intro m meth c A g ig mk a X hg hsize hdg hW hn hp
  have h1 : (headSpec ws rm).pre.before a A.U = true := atoms_intro fun w hw => hws w hw _ _ X.warmed
  have h2 : (Cond.codeWith y bytes maxL ret hh).before a A.U = true := hws _ hcode _ _ X.warmed
  have h3 : (Cond.initialized y.cls).before a A.U = true := hinit _ _ X.warmed
  have h4 : A.cells + (headSpec ws rm).room.cells ≤ R.cells := by rw [show (headSpec ws rm).room.cells = mc from hrc]; exact hp.1
  have h5 : A.slots + (headSpec ws rm).room.slots ≤ R.slots := by rw [show (headSpec ws rm).room.slots = ms from hrs]; exact hp.2.1
  have hPc : Pc a (A.U.calling g mk a) := hblind _ _ _ _ hp.2.2
  obtain ⟨U, Ls, c0, s0⟩ := A
  dsimp only [Pt.U, Pt.locs, Pt.cells, Pt.slots] at h1 h2 h3 h4 h5 X hn hPc ⊢
  obtain ⟨m9, methY, cY, hn9, hmY, hcY, -, hlY, -⟩ := Cond.codeWith_spec h2
  cases Option.some.inj (hn9.symm.trans hn)
  obtain ⟨kY, hkY, -⟩ := className_of_methodNamed hn
  have hinitY : kY.init = .initialized := Cond.initialized_spec (findClass_of_methodNamed hn) hkY h3
  have h : At U g.method c below := by rw [hg]; exact X.here
  have hlocals9 : W9 + (maxL + 11) + (headSpec ws rm).room.locals ≤ R.locals := hlocals
  have happ : (headSpec ws rm).appliesLoose y e.platform (U.calling g mk a) = true :=
    Spec.appliesLoose_calling (g := g) h hdg hn hkY hinitY
      (X.room_calling (g := g) (R' := (headSpec ws rm).room) hsize hmY hcY hframes (by rw [hlY]; omega) h4 h5) h1
  obtain ⟨mid, hmid⟩ := h.above
  have hfr : (U.setTop g).frames = (.java g :: mid) ++ below := by rw [State.frames_setTop' g h.top, hmid]; rfl
  obtain ⟨o, s₂, hsteps, -, hend, hq⟩ := Steps.callFree hM p X.admits X.cas X.clock (acts := []) hfr happ hPc trivial
  have hq' : vx_Q Qc XC mc ms free a (U.calling g mk a) o s₂ := hq
  rw [State.frames_setTop' g h.top] at hend
  obtain ⟨g₀, hg0⟩ := Option.isSome_iff_exists.mp h.top
  obtain ⟨r, hr⟩ := State.topJava?_eq_some.mp hg0
  have hr' : (({ U with heap := s₂.heap, slotsUsed := s₂.slotsUsed } : State).setVm s₂.vm).frames = .java g₀ :: r := hr
  rcases hq' with ⟨hqc, L, hfe, hL⟩ | ⟨q, rfl, E, ce, L, hx, hce, hcv, hcl, hW₂, hsm, hL⟩
  · obtain ⟨⟨v, rfl⟩, hW₂, e2, q2, q3, q4, q5, q6⟩ := id hfe
    have e3 : s₂ = ({ (U.calling g mk a).setFrames s₂.frames with heap := s₂.heap, slotsUsed := s₂.slotsUsed } : State).setVm s₂.vm := by
      have : s₂ = ({ s₂ with vm := (U.calling g mk a).vm } : State).setVm s₂.vm := rfl
      rw [e2] at this
      exact this
    obtain ⟨c₂, i₂, len₂, hc₂, hd₂, hf₂⟩ := hend
    have hW' : U.WarmedH s₂.vm := hW₂
    have hcc : c₂ = c := by
      have h1 : s₂.code? g.method = U.code? g.method := by
        rw [State.code?_eq, State.code?_eq, hW'.alike.method?]
      exact Option.some.inj (hc₂.symm.trans (h1.trans h.code))
    subst hcc
    have hlen : len₂ = len := by rw [hdg] at hd₂; cases hd₂; rfl
    subst hlen
    have hs₂ : s₂ = (({ U with heap := s₂.heap, slotsUsed := s₂.slotsUsed } : State).setVm s₂.vm).setTop { g with pc := g.pc + len₂, stack := v.toList ++ g.stack } := by
      refine e3.trans ?_
      rw [hf₂, State.calling_eq h.top, State.setFrames_setFrames, State.setTop_of_frames _ hr', hr]
      rfl
    have hsame : U.sameButNew ({ U with heap := s₂.heap, slotsUsed := s₂.slotsUsed } : State) L mc ms := by
      refine ⟨?_, q2, q3, q4, q5, q6⟩
      obtain ⟨t, ht, -⟩ := State.frames_cons hr
      show ({ U with heap := s₂.heap, slotsUsed := s₂.slotsUsed } : State) = { U.setFrames U.frames with heap := s₂.heap, slotsUsed := s₂.slotsUsed }
      rw [State.setFrames_self ht]
    subst hg
    refine Or.inl ⟨v, ⟨(({ U with heap := s₂.heap, slotsUsed := s₂.slotsUsed } : State).setVm s₂.vm), Ls ++ L, c0 + mc, s0 + ms⟩,
      ⟨X.admits, X.cas, X.clock, X.frames, X.room, X.hears, X.method, X.code, (X.here.setHeapUsed s₂.heap s₂.slotsUsed).setVm hW'.alike, X.tail, State.WarmedH.trans X.warmed hW', X.limits, X.bytes, X.same.trans (hsame.setVm s.vm)⟩,
      ⟨g, mk, s₂, L, rfl, rfl, hqc, rfl, hL, rfl, rfl⟩, ?_⟩
    show Steps p.tables e below _ ((({ U with heap := s₂.heap, slotsUsed := s₂.slotsUsed } : State).setVm s₂.vm).setTop { g with pc := g.pc + len₂, stack := v.toList ++ g.stack })
    rw [← hs₂]
    exact hsteps
  · obtain ⟨e2, q2, q3, q4, q5, q6⟩ := id hsm
    have e3 : s₂ = ({ (U.calling g mk a).setFrames s₂.frames with heap := s₂.heap, slotsUsed := s₂.slotsUsed } : State).setVm s₂.vm := by
      have : s₂ = ({ s₂ with vm := (U.calling g mk a).vm } : State).setVm s₂.vm := rfl
      rw [e2] at this
      exact this
    have hf₂ : s₂.frames = .throwing q :: .java g :: U.frames.tail := hend
    have hW' : U.WarmedH s₂.vm := hW₂
    have hs₂ : s₂ = ((({ U with heap := s₂.heap, slotsUsed := s₂.slotsUsed } : State).setVm s₂.vm).setTop g).pushFrame (.throwing q) := by
      refine e3.trans ?_
      rw [hf₂, State.calling_eq h.top, State.setFrames_setFrames, State.pushFrame, State.frames_setTop _ hr', State.setTop_of_frames _ hr', State.setFrames_setFrames, hr]
      rfl
    have hsame : U.sameButNew ({ U with heap := s₂.heap, slotsUsed := s₂.slotsUsed } : State) L mc ms := by
      refine ⟨?_, q2, q3, q4, q5, q6⟩
      obtain ⟨t, ht, -⟩ := State.frames_cons hr
      show ({ U with heap := s₂.heap, slotsUsed := s₂.slotsUsed } : State) = { U.setFrames U.frames with heap := s₂.heap, slotsUsed := s₂.slotsUsed }
      rw [State.setFrames_self ht]
    subst hg
    refine Or.inr ⟨q, ⟨(({ U with heap := s₂.heap, slotsUsed := s₂.slotsUsed } : State).setVm s₂.vm), Ls ++ L, c0 + mc, s0 + ms⟩,
      ⟨X.admits, X.cas, X.clock, X.frames, X.room, X.hears, X.method, X.code, (X.here.setHeapUsed s₂.heap s₂.slotsUsed).setVm hW'.alike, X.tail, State.WarmedH.trans X.warmed hW', X.limits, X.bytes, X.same.trans (hsame.setVm s.vm)⟩,
      ⟨g, mk, s₂, L, E, ce, rfl, rfl, hx, hce, hcv, hcl, rfl, hL, rfl, rfl⟩, ?_⟩
    show Steps p.tables e below _ (((({ U with heap := s₂.heap, slotsUsed := s₂.slotsUsed } : State).setVm s₂.vm).setTop g).pushFrame (.throwing q))
    rw [← hs₂]
    exact hsteps
end
variable {p : Program} {l : Launch} {e : Env} {R : Room} {s : State} {m : MethodId} {args : Array Value} {below : List Frame} {meth : Method} {c : Code} {T : State} {H : Heap} {locs : List Loc} {cells slots : Nat}
theorem vx_callVX (X : Stand p l e R s m args below meth c T locs cells slots) (hexec : p.tables.exec = Jvm.exec) {own C : String} {index : Nat} {y : MethodName} {bytes : ByteArray} {maxL : Nat} {ret : Option FieldType} {hh : List (Nat × Nat × Nat × Nat)}
    (hown : s.vm.findClass own = some m.cls) (hlink : (Cond.methodLink own index y).before args s = true) (hinst : (Cond.instanceMethod y).before args s = true) (hsel : (Cond.selects C y y).before args s = true)
    (hcode : (Cond.codeWith y bytes maxL ret hh).before args s = true) (hy : y.cls ≠ "java/lang/invoke/MethodHandle" ∧ y.cls ≠ "java/lang/invoke/VarHandle")
    {W9 : Nat} {Pre : Pt → Array Value → Prop} {Post : Pt → Array Value → Option Value → Pt → Prop} {PostX : Pt → Array Value → Addr → Pt → Prop} (hK : vx_Back l R p e below s args y 3 W9 Pre Post PostX)
    {b : Addr} {cellB : Cell} (hcell : T.heap[b]? = some cellB) (hobj : cellB.vm.isStatics = false) (hcls : s.vm.findClass C = some cellB.cls)
    {g : JFrame} (hg : g.method = m) (hsize : g.locals.size = c.maxLocals) {argsL rest : List Value} (hlen : ∀ sig, parseMethodDescriptor y.desc = some sig → argsL.length = sig.parameters.length)
    (hstack : g.stack = argsL.reverse ++ .ref b :: rest) (hW : 2 * g.monitorRoom + (rest.map fun v => v.category).sum ≤ W9) (hdg : decode c.code g.pc = .ok (.invokevirtual index, 3))
    (hpre : ∀ vm₁, s.WarmedH vm₁ → Pre ⟨T.setVm vm₁, locs, cells, slots⟩ (Value.ref b :: argsL).toArray) :
    (∃ (v : Option Value) (vm₁ : Vm) (B : Pt), s.WarmedH vm₁ ∧ Stand p l e R s m args below meth c B.U B.locs B.cells B.slots ∧ Post ⟨T.setVm vm₁, locs, cells, slots⟩ (Value.ref b :: argsL).toArray v B ∧
      ∀ target, Steps p.tables e below (B.U.setTop { g with pc := g.pc + 3, stack := v.toList ++ rest }) target → Steps p.tables e below (T.setTop g) target) ∨
    (∃ (q : Addr) (vm₁ : Vm) (B : Pt), s.WarmedH vm₁ ∧ Stand p l e R s m args below meth c B.U B.locs B.cells B.slots ∧ PostX ⟨T.setVm vm₁, locs, cells, slots⟩ (Value.ref b :: argsL).toArray q B ∧
      Steps p.tables e below (T.setTop g) ((B.U.setTop { g with stack := rest }).pushFrame (.throwing q))) := by
  obtain ⟨mk, methM, hnamed, hmethM, hstM, habM⟩ := Cond.instanceMethod_spec hinst
  obtain ⟨m8, methM', cM, hn8, hmethM', -, -, -, -, -, -, hsigM⟩ := Cond.codeWith_spec hcode
  cases Option.some.inj (hn8.symm.trans hnamed)
  cases hmethM.symm.trans hmethM'
  obtain ⟨c2, r2, m2, q1, q2, q3, q4, kP, hkP, hkPi⟩ := Cond.selects_spec hsel
  cases hcls.symm.trans q1
  cases (State.methodFound?_of_named hnamed hy).symm.trans q2
  cases hnamed.symm.trans q3
  have hselP : selectMethod e.platform s.vm cellB.cls mk = .method mk := by rw [Launch.admits_selectMethod X.admits]; exact q4
  obtain ⟨vm₁, X₁, hstep₁⟩ := X.invokevirtual hexec hown hlink hnamed hmethM hstM hkP hkPi hy (a := b) (cell := cellB) hcell
    (fun z h => by rw [h] at hobj; cases hobj) hselP hmethM habM hkP hkPi (g := g) hg (argsL := argsL) (rest := rest) (hlen _ hsigM) hstack hdg
  rcases hK m meth c ⟨T.setVm vm₁, locs, cells, slots⟩ { g with stack := rest } (.invokevirtual index) mk (Value.ref b :: argsL).toArray X₁ hg hsize hdg hW (X₁.named hnamed) (hpre vm₁ X₁.warmed) with ⟨v, B, X', hpost, hsteps⟩ | ⟨q, B, X', hpost, hsteps⟩
  · exact Or.inl ⟨v, vm₁, B, X₁.warmed, X', hpost, fun target h => hstep₁ _ fun acts => by rw [doInvoke_state]; exact hsteps.trans h⟩
  · exact Or.inr ⟨q, vm₁, B, X₁.warmed, X', hpost, hstep₁ _ fun acts => by rw [doInvoke_state]; exact hsteps⟩
theorem vx_callSX (X : Stand p l e R s m args below meth c T locs cells slots) (hexec : p.tables.exec = Jvm.exec) {own : String} {index : Nat} {y : MethodName} {bytes : ByteArray} {maxL : Nat} {ret : Option FieldType} {hh : List (Nat × Nat × Nat × Nat)}
    (hown : s.vm.findClass own = some m.cls) (hlink : (Cond.methodLink own index y).before args s = true) (hstat : (Cond.static y).before args s = true) (hinit : (Cond.initialized y.cls).before args s = true)
    (hcode : (Cond.codeWith y bytes maxL ret hh).before args s = true) (hy : y.cls ≠ "java/lang/invoke/MethodHandle" ∧ y.cls ≠ "java/lang/invoke/VarHandle")
    {W9 : Nat} {Pre : Pt → Array Value → Prop} {Post : Pt → Array Value → Option Value → Pt → Prop} {PostX : Pt → Array Value → Addr → Pt → Prop} (hK : vx_Back l R p e below s args y 3 W9 Pre Post PostX)
    {g : JFrame} (hg : g.method = m) (hsize : g.locals.size = c.maxLocals) {argsL rest : List Value} (hlen : ∀ sig, parseMethodDescriptor y.desc = some sig → argsL.length = sig.parameters.length)
    (hstack : g.stack = argsL.reverse ++ rest) (hW : 2 * g.monitorRoom + (rest.map fun v => v.category).sum ≤ W9) (hdg : decode c.code g.pc = .ok (.invokestatic index, 3))
    (hpre : ∀ vm₁, s.WarmedH vm₁ → Pre ⟨T.setVm vm₁, locs, cells, slots⟩ argsL.toArray) :
    (∃ (v : Option Value) (vm₁ : Vm) (B : Pt), s.WarmedH vm₁ ∧ Stand p l e R s m args below meth c B.U B.locs B.cells B.slots ∧ Post ⟨T.setVm vm₁, locs, cells, slots⟩ argsL.toArray v B ∧
      ∀ target, Steps p.tables e below (B.U.setTop { g with pc := g.pc + 3, stack := v.toList ++ rest }) target → Steps p.tables e below (T.setTop g) target) ∨
    (∃ (q : Addr) (vm₁ : Vm) (B : Pt), s.WarmedH vm₁ ∧ Stand p l e R s m args below meth c B.U B.locs B.cells B.slots ∧ PostX ⟨T.setVm vm₁, locs, cells, slots⟩ argsL.toArray q B ∧
      Steps p.tables e below (T.setTop g) ((B.U.setTop { g with stack := rest }).pushFrame (.throwing q))) := by
  obtain ⟨mk, methM, cM, hnamed, hmethM, -, -, -, -, -, -, hsigM⟩ := Cond.codeWith_spec hcode
  have hstatic : methM.isStatic = true := Cond.static_spec hnamed hmethM hstat
  obtain ⟨kP, hkP, -⟩ := className_of_methodNamed hnamed
  have hinitP : kP.init = .initialized := Cond.initialized_spec (findClass_of_methodNamed hnamed) hkP hinit
  obtain ⟨vm₁, X₁, hstep₁⟩ := X.invokestatic hexec hown hlink hnamed hmethM hstatic hkP hinitP hy (g := g) hg (argsL := argsL) (rest := rest) (hlen _ hsigM) hstack hdg
  rcases hK m meth c ⟨T.setVm vm₁, locs, cells, slots⟩ { g with stack := rest } (.invokestatic index) mk argsL.toArray X₁ hg hsize hdg hW (X₁.named hnamed) (hpre vm₁ X₁.warmed) with ⟨v, B, X', hpost, hsteps⟩ | ⟨q, B, X', hpost, hsteps⟩
  · exact Or.inl ⟨v, vm₁, B, X₁.warmed, X', hpost, fun target h => hstep₁ _ fun acts => by rw [doInvoke_state]; exact hsteps.trans h⟩
  · exact Or.inr ⟨q, vm₁, B, X₁.warmed, X', hpost, hstep₁ _ fun acts => by rw [doInvoke_state]; exact hsteps⟩
theorem vx_callVW (X : Stand p l e R s m args below meth c T locs cells slots) (hexec : p.tables.exec = Jvm.exec) {own C : String} {index : Nat} {y : MethodName} {bytes : ByteArray} {maxL : Nat} {ret : Option FieldType} {hh : List (Nat × Nat × Nat × Nat)}
    (hown : s.vm.findClass own = some m.cls) (hlink : (Cond.methodLink own index y).before args s = true) (hinst : (Cond.instanceMethod y).before args s = true) (hsel : (Cond.selects C y y).before args s = true)
    (hcode : (Cond.codeWith y bytes maxL ret hh).before args s = true) (hy : y.cls ≠ "java/lang/invoke/MethodHandle" ∧ y.cls ≠ "java/lang/invoke/VarHandle")
    {W9 : Nat} {Pre : Pt → Array Value → Prop} {Post : Pt → Array Value → Option Value → Pt → Prop} (hK : Back l R p e below s args y 3 W9 Pre Post)
    {b : Addr} {cellB : Cell} (hcell : T.heap[b]? = some cellB) (hobj : cellB.vm.isStatics = false) (hcls : s.vm.findClass C = some cellB.cls)
    {g : JFrame} (hg : g.method = m) (hsize : g.locals.size = c.maxLocals) {argsL rest : List Value} (hlen : ∀ sig, parseMethodDescriptor y.desc = some sig → argsL.length = sig.parameters.length)
    (hstack : g.stack = argsL.reverse ++ .ref b :: rest) (hW : 2 * g.monitorRoom + (rest.map fun v => v.category).sum ≤ W9) (hdg : decode c.code g.pc = .ok (.invokevirtual index, 3))
    (hpre : ∀ vm₁, s.WarmedH vm₁ → Pre ⟨T.setVm vm₁, locs, cells, slots⟩ (Value.ref b :: argsL).toArray) :
    ∃ (v : Option Value) (vm₁ : Vm) (B : Pt), s.WarmedH vm₁ ∧ Stand p l e R s m args below meth c B.U B.locs B.cells B.slots ∧ Post ⟨T.setVm vm₁, locs, cells, slots⟩ (Value.ref b :: argsL).toArray v B ∧
      ∀ target, Steps p.tables e below (B.U.setTop { g with pc := g.pc + 3, stack := v.toList ++ rest }) target → Steps p.tables e below (T.setTop g) target := by
  obtain ⟨mk, methM, hnamed, hmethM, hstM, habM⟩ := Cond.instanceMethod_spec hinst
  obtain ⟨m8, methM', cM, hn8, hmethM', -, -, -, -, -, -, hsigM⟩ := Cond.codeWith_spec hcode
  cases Option.some.inj (hn8.symm.trans hnamed)
  cases hmethM.symm.trans hmethM'
  obtain ⟨c2, r2, m2, q1, q2, q3, q4, kP, hkP, hkPi⟩ := Cond.selects_spec hsel
  cases hcls.symm.trans q1
  cases (State.methodFound?_of_named hnamed hy).symm.trans q2
  cases hnamed.symm.trans q3
  have hselP : selectMethod e.platform s.vm cellB.cls mk = .method mk := by rw [Launch.admits_selectMethod X.admits]; exact q4
  obtain ⟨vm₁, X₁, hstep₁⟩ := X.invokevirtual hexec hown hlink hnamed hmethM hstM hkP hkPi hy (a := b) (cell := cellB) hcell
    (fun z h => by rw [h] at hobj; cases hobj) hselP hmethM habM hkP hkPi (g := g) hg (argsL := argsL) (rest := rest) (hlen _ hsigM) hstack hdg
  obtain ⟨v, B, X', hpost, hsteps⟩ := hK m meth c ⟨T.setVm vm₁, locs, cells, slots⟩ { g with stack := rest } (.invokevirtual index) mk (Value.ref b :: argsL).toArray X₁ hg hsize hdg hW (X₁.named hnamed) (hpre vm₁ X₁.warmed)
  exact ⟨v, vm₁, B, X₁.warmed, X', hpost, fun target h => hstep₁ _ fun acts => by rw [doInvoke_state]; exact hsteps.trans h⟩
abbrev vx_CVW (R : Room) (s : State) (args : Array Value) (own C : String) (index : Nat) (y : MethodName) (bytes : ByteArray) (maxL : Nat) (ret : Option FieldType) (hh : List (Nat × Nat × Nat × Nat)) (ws : List Cond) (rm : Room) (mc ms n : Nat) : Prop :=
  (rm.cells = mc ∧ rm.slots = ms ∧ rm.frames + 1 ≤ R.frames ∧ 8 + (maxL + 11) + rm.locals ≤ R.locals ∧ (∀ w ∈ ws, ∀ (a' : Array Value) (U : State), s.WarmedH U.vm → w.before a' U = true) ∧ Cond.codeWith y bytes maxL ret hh ∈ ws) ∧
  (Cond.codeWith y bytes maxL ret hh).before args s = true ∧ (Cond.initialized y.cls).before args s = true ∧ (y.cls ≠ "java/lang/invoke/MethodHandle" ∧ y.cls ≠ "java/lang/invoke/VarHandle") ∧
  (∀ sig, parseMethodDescriptor y.desc = some sig → n = sig.parameters.length) ∧ (Cond.methodLink own index y).before args s = true ∧ (Cond.instanceMethod y).before args s = true ∧ (Cond.selects C y y).before args s = true
theorem vx_cwVW {own C : String} {index maxL mc ms : Nat} {y : MethodName} {bytes : ByteArray} {ret : Option FieldType} {hh : List (Nat × Nat × Nat × Nat)} {Ts ws ws' : List Cond} {rm : Room} (n : Nat) (ht : ∀ w ∈ Ts, w.before args s = true) (hT : GoodIn Ts (wsV own index C y ws)) (hw : ws = Cond.codeWith y bytes maxL ret hh :: ws') (hrc : rm.cells = mc) (hrs : rm.slots = ms)
    (hd : y.cls = C ∧ y.cls ≠ "java/lang/invoke/MethodHandle" ∧ y.cls ≠ "java/lang/invoke/VarHandle" ∧ (parseMethodDescriptor y.desc).map (fun d => d.parameters.length) = some n) (hR : rm.frames + 1 ≤ R.frames ∧ 8 + (maxL + 11) + rm.locals ≤ R.locals) :
    vx_CVW R s args own C index y bytes maxL ret hh ws rm mc ms n := by
  obtain ⟨hC, hd⟩ := hd
  subst hC
  have ok : ∀ w ∈ wsV own index y.cls y ws, w.before args s = true := fun w h => ht w (hT w h).1
  have hG : GoodIn Ts ws := fun w h => hT w (by unfold wsV; exact List.mem_append_right _ h)
  have hc : Cond.codeWith y bytes maxL ret hh ∈ ws := by rw [hw]; exact List.mem_cons_self
  refine ⟨⟨hrc, hrs, hR.1, hR.2, pay_in ht hG, hc⟩, ht _ (hG _ hc).1, ok _ (by simp [wsV]), ⟨hd.1, hd.2.1⟩, fun sig h => ?_, ok _ (by simp [wsV]), ok _ (by simp [wsV]), ok _ (by simp [wsV])⟩
  have h2 := hd.2.2
  rw [h] at h2
  exact (Option.some.inj h2).symm
theorem vx_runVW {y : MethodName} {bytes cc : ByteArray} {maxL nL mc ms n index : Nat} {ret : Option FieldType} {hh : List (Nat × Nat × Nat × Nat)} {ws : List Cond} {rm : Room} {Pc : Array Value → State → Prop} {Qc : Array Value → State → Outcome → State → Prop} {free : Addr → Prop} {Ts : List Cond} {own C : String} {b : Addr} {As rest : List Value} {g : JFrame}
    (S : CallFix p m c cc nL s args Ts own) (hM : Met l y ws rm Pc Qc mc ms free) (cw : vx_CVW R s args own C index y bytes maxL ret hh ws rm mc ms n) (hp : PreV s H C b Pc As)
    (hg : g.method = m) (hn : As.length = n) (hsize : g.locals.size = nL) (hstack : g.stack = As.reverse ++ .ref b :: rest) (hW : 2 * g.monitorRoom + (rest.map fun v => v.category).sum ≤ 8) (hdg : decode cc g.pc = .ok (.invokevirtual index, 3)) (hf : cells + mc ≤ R.cells ∧ slots + ms ≤ R.slots) :
    va_Run p l e R s m args below meth c H locs cells slots mc ms g rest (Qc (Value.ref b :: As).toArray) free := by
  obtain ⟨⟨hrc, hrs, hfr, hlo, hws, hcw⟩, hcode, hini, hy, hlen, hl, hin, hse⟩ := cw
  have hK : Back l R p e below s args y 3 8 (PreOf R mc ms Pc) (PostOf Qc mc ms free) := va_backW (hh := hh) (bytes := bytes) (maxL := maxL) (ret := ret) hM hp.1 hrc hrs hfr hlo hws hcw (fun a' U hW => word_at hW (Or.inl (by first | rfl | simp [Cond.onTables, Cond.keeps, Cond.steady])) hini)
  obtain ⟨hx, hb, hml, ho, -⟩ := S
  obtain ⟨-, ⟨cellB, hcB, hoB, hclB⟩, hPc⟩ := hp
  intro T hT X
  obtain ⟨v, vm₁, ⟨U', l2, c2, s2⟩, hW₁, X', ⟨g', mk, t, L, e1, e2, hq, h1, hL, h2, h3⟩, st⟩ := vx_callVW X hx (C := C) (hh := hh) (bytes := bytes) (maxL := maxL) (ret := ret) ho hl hin hse hcode hy hK (by rw [hT]; exact hcB) hoB hclB hg (hsize.trans hml.symm) (argsL := As) (rest := rest) (fun sig h => hn.trans (hlen sig h)) hstack hW (by rw [hb]; exact hdg)
    (fun vm₁ hW₁ => ⟨hf.1, hf.2, hPc (T.setVm vm₁) hT hW₁⟩)
  dsimp only [Pt.U, Pt.locs, Pt.cells, Pt.slots] at X' e1 e2 h1 h2 h3 st
  subst h1; subst h2; subst h3
  exact ⟨v, (T.setVm vm₁).calling g' mk (Value.ref b :: As).toArray, t, U', L, hT, X', hL, e1, e2, hq, st⟩
section
variable {y : MethodName} {bytes cc : ByteArray} {maxL nL mc ms n index : Nat} {ret : Option FieldType} {ws : List Cond} {rm : Room} {Pc : Array Value → State → Prop} {Qc : Array Value → State → Outcome → State → Prop} {XC : String → State → State → Prop} {free : Addr → Prop} {Ts : List Cond} {own C : String} {b : Addr} {As rest : List Value} {g : JFrame}
theorem vx_runVX {hh : List (Nat × Nat × Nat × Nat)} (S : CallFix p m c cc nL s args Ts own) (hM : vx_Met l y ws rm Pc Qc XC mc ms free) (cw : vx_CVW R s args own C index y bytes maxL ret hh ws rm mc ms n) (hp : PreV s H C b Pc As)
    (hg : g.method = m) (hn : As.length = n) (hsize : g.locals.size = nL) (hstack : g.stack = As.reverse ++ .ref b :: rest) (hW : 2 * g.monitorRoom + (rest.map fun v => v.category).sum ≤ 8) (hdg : decode cc g.pc = .ok (.invokevirtual index, 3)) (hf : cells + mc ≤ R.cells ∧ slots + ms ≤ R.slots) :
    vx_Run p l e R s m args below meth c H locs cells slots mc ms g rest (Qc (Value.ref b :: As).toArray) XC free := by
  obtain ⟨⟨hrc, hrs, hfr, hlo, hws, hcw⟩, hcode, hini, hy, hlen, hl, hin, hse⟩ := cw
  have hK : vx_Back l R p e below s args y 3 8 (PreOf R mc ms Pc) (PostOf Qc mc ms free) (vx_Post XC mc ms free) := vx_backW (hh := hh) (bytes := bytes) (maxL := maxL) (ret := ret) hM hp.1 hrc hrs hfr hlo hws hcw (fun a' U hW => word_at hW (Or.inl (by first | rfl | simp [Cond.onTables, Cond.keeps, Cond.steady])) hini)
  obtain ⟨hx, hb, hml, ho, -⟩ := S
  obtain ⟨-, ⟨cellB, hcB, hoB, hclB⟩, hPc⟩ := hp
  intro T hT X
  rcases vx_callVX X hx (C := C) (hh := hh) (bytes := bytes) (maxL := maxL) (ret := ret) ho hl hin hse hcode hy hK (by rw [hT]; exact hcB) hoB hclB hg (hsize.trans hml.symm) (argsL := As) (rest := rest) (fun sig h => hn.trans (hlen sig h)) hstack hW (by rw [hb]; exact hdg)
    (fun vm₁ hW₁ => ⟨hf.1, hf.2, hPc (T.setVm vm₁) hT hW₁⟩) with ⟨v, vm₁, ⟨U', l2, c2, s2⟩, hW₁, X', ⟨g', mk, t, L, e1, e2, hq, h1, hL, h2, h3⟩, st⟩ | ⟨q, vm₁, ⟨U', l2, c2, s2⟩, hW₁, X', ⟨g', mk, t, L, E, ce, e1, e2, hq, hce, hcv, hcl, h1, hL, h2, h3⟩, st⟩
  · dsimp only [Pt.U, Pt.locs, Pt.cells, Pt.slots] at X' e1 e2 h1 h2 h3 st
    subst h1; subst h2; subst h3
    exact Or.inl ⟨v, (T.setVm vm₁).calling g' mk (Value.ref b :: As).toArray, t, U', L, hT, X', hL, e1, e2, hq, st⟩
  · dsimp only [Pt.U, Pt.locs, Pt.cells, Pt.slots] at X' e1 e2 h1 h2 h3 st hcl
    subst h1; subst h2; subst h3
    exact Or.inr ⟨q, (T.setVm vm₁).calling g' mk (Value.ref b :: As).toArray, t, U', L, E, ce, hT, X', hL, e1, e2, hq, hce, hcv, vx_cls hW₁ hcl, st⟩
theorem vx_runSX {hh : List (Nat × Nat × Nat × Nat)} (S : CallFix p m c cc nL s args Ts own) (hM : vx_Met l y ws rm Pc Qc XC mc ms free) (cw : vx_CSW R s args own index y bytes maxL ret hh ws rm mc ms n) (hp : PreS s H Pc As)
    (hg : g.method = m) (hn : As.length = n) (hsize : g.locals.size = nL) (hstack : g.stack = As.reverse ++ rest) (hW : 2 * g.monitorRoom + (rest.map fun v => v.category).sum ≤ 8) (hdg : decode cc g.pc = .ok (.invokestatic index, 3)) (hf : cells + mc ≤ R.cells ∧ slots + ms ≤ R.slots) :
    vx_Run p l e R s m args below meth c H locs cells slots mc ms g rest (Qc As.toArray) XC free := by
  obtain ⟨⟨hrc, hrs, hfr, hlo, hws, hcw⟩, hcode, hini, hy, hlen, hl, hstt⟩ := cw
  have hK : vx_Back l R p e below s args y 3 8 (PreOf R mc ms Pc) (PostOf Qc mc ms free) (vx_Post XC mc ms free) := vx_backW (hh := hh) (bytes := bytes) (maxL := maxL) (ret := ret) hM hp.1 hrc hrs hfr hlo hws hcw (fun a' U hW => word_at hW (Or.inl (by first | rfl | simp [Cond.onTables, Cond.keeps, Cond.steady])) hini)
  obtain ⟨hx, hb, hml, ho, -⟩ := S
  intro T hT X
  rcases vx_callSX X hx (hh := hh) (bytes := bytes) (maxL := maxL) (ret := ret) ho hl hstt hini hcode hy hK hg (hsize.trans hml.symm) (argsL := As) (rest := rest) (fun sig h => hn.trans (hlen sig h)) hstack hW (by rw [hb]; exact hdg)
    (fun vm₁ hW₁ => ⟨hf.1, hf.2, hp.2 (T.setVm vm₁) hT hW₁⟩) with ⟨v, vm₁, ⟨U', l2, c2, s2⟩, hW₁, X', ⟨g', mk, t, L, e1, e2, hq, h1, hL, h2, h3⟩, st⟩ | ⟨q, vm₁, ⟨U', l2, c2, s2⟩, hW₁, X', ⟨g', mk, t, L, E, ce, e1, e2, hq, hce, hcv, hcl, h1, hL, h2, h3⟩, st⟩
  · dsimp only [Pt.U, Pt.locs, Pt.cells, Pt.slots] at X' e1 e2 h1 h2 h3 st
    subst h1; subst h2; subst h3
    exact Or.inl ⟨v, (T.setVm vm₁).calling g' mk As.toArray, t, U', L, hT, X', hL, e1, e2, hq, st⟩
  · dsimp only [Pt.U, Pt.locs, Pt.cells, Pt.slots] at X' e1 e2 h1 h2 h3 st hcl
    subst h1; subst h2; subst h3
    exact Or.inr ⟨q, (T.setVm vm₁).calling g' mk As.toArray, t, U', L, E, ce, hT, X', hL, e1, e2, hq, hce, hcv, vx_cls hW₁ hcl, st⟩
end
end VXH
theorem vx_ofWH {l : Launch} {y : MethodName} {ws ws' : List Cond} {rm : Room} {Pc : Array Value → State → Prop} {Qc : Array Value → State → Outcome → State → Prop} {XC : String → State → State → Prop} {mc ms : Nat} {free : Addr → Prop} {cc : ByteArray} {maxL : Nat} {ret : Option FieldType} {hh : List (Nat × Nat × Nat × Nat)}
    (hy : plainName y.cls = true) (hw : ws = Cond.codeWith y cc maxL ret hh :: ws')
    (body : ∀ p e s m args below meth c s₁, BodyLoose p l y (headSpec ws rm) cc maxL ret e s m args below meth c s₁ → c.maxLocals = maxL → Pc args s →
      W p l e (headSpec ws rm).room s m args below meth c s.heap [] 0 0 (vx_MQ below Qc XC args s mc ms free) (entryFrame m args maxL)) : vx_Met l y ws rm Pc Qc XC mc ms free := by
  refine MetFree.of_bodyS (code := cc) (maxLocals := maxL) (ret := ret) hy ?_ ?_
  · intro args s m h hn
    obtain ⟨m9, meth, c, hn9, h1, h2, h3, h4, -, h5, h6, -⟩ := Cond.codeWith_spec (atoms_spec (ws := ws) h _ (by rw [hw]; exact List.mem_cons_self))
    cases hn.symm.trans hn9
    exact ⟨meth, c, h1, h2, h3, h4, h5, h6⟩
  · intro p e s m args below meth c s₁ B hml hP _
    have hh0 : s₁.heap = s.heap := by rw [B.state]; rfl
    obtain ⟨t, a1, o, b1, b2, b3⟩ := body p e s m args below meth c s₁ B hml hP s₁ hh0 (Stand.of_body B)
    exact ⟨t, o, a1, b1, b2, b3⟩
/-! ===== END ===== -/

-- ===== PART A: goes FIRST, ahead of the names: the tables' words, and 'selects' of the private methods out of them =====
/-- a private method of a class that the tables say can be made, by its rows of tables_1 -/
def lw_okq (q : MethodName × Nat) : Prop := (q.1.cls ≠ "java/lang/invoke/MethodHandle" ∧ q.1.cls ≠ "java/lang/invoke/VarHandle") ∧ Cond.instantiable q.1.cls q.2 ∈ tables_1 ∧ Cond.privateMethod q.1 ∈ tables_1 ∧ Cond.instanceMethod q.1 ∈ tables_1
theorem lw_p0 : lw_okq (⟨"java/lang/Throwable", "fillInStackTrace", "(I)Ljava/lang/Throwable;"⟩, 6) := ⟨⟨by decide +kernel, by decide +kernel⟩, List.mem_of_getElem? (i := 211) (by decide +kernel), List.mem_of_getElem? (i := 209) (by decide +kernel), List.mem_of_getElem? (i := 210) (by decide +kernel)⟩
theorem lw_p1 : lw_okq (⟨"TrainingRows", "requireCourse", "(I)V"⟩, 5) := ⟨⟨by decide +kernel, by decide +kernel⟩, List.mem_of_getElem? (i := 16) (by decide +kernel), List.mem_of_getElem? (i := 274) (by decide +kernel), List.mem_of_getElem? (i := 275) (by decide +kernel)⟩
theorem lw_p2 : lw_okq (⟨"TrainingRows", "requirePair", "(II)V"⟩, 5) := ⟨⟨by decide +kernel, by decide +kernel⟩, List.mem_of_getElem? (i := 16) (by decide +kernel), List.mem_of_getElem? (i := 356) (by decide +kernel), List.mem_of_getElem? (i := 357) (by decide +kernel)⟩
theorem lw_p3 : lw_okq (⟨"TrainingRows", "whyBarred", "(II)I"⟩, 5) := ⟨⟨by decide +kernel, by decide +kernel⟩, List.mem_of_getElem? (i := 16) (by decide +kernel), List.mem_of_getElem? (i := 361) (by decide +kernel), List.mem_of_getElem? (i := 362) (by decide +kernel)⟩
theorem lw_p4 : lw_okq (⟨"TrainingRows", "holdsNeeds", "(II)Z"⟩, 5) := ⟨⟨by decide +kernel, by decide +kernel⟩, List.mem_of_getElem? (i := 16) (by decide +kernel), List.mem_of_getElem? (i := 365) (by decide +kernel), List.mem_of_getElem? (i := 366) (by decide +kernel)⟩
theorem lw_p5 : lw_okq (⟨"TrainingRows", "holdsNow", "(II)Z"⟩, 5) := ⟨⟨by decide +kernel, by decide +kernel⟩, List.mem_of_getElem? (i := 16) (by decide +kernel), List.mem_of_getElem? (i := 369) (by decide +kernel), List.mem_of_getElem? (i := 370) (by decide +kernel)⟩
theorem lw_p6 : lw_okq (⟨"TrainingRows", "lapseNow", "(II)I"⟩, 5) := ⟨⟨by decide +kernel, by decide +kernel⟩, List.mem_of_getElem? (i := 16) (by decide +kernel), List.mem_of_getElem? (i := 373) (by decide +kernel), List.mem_of_getElem? (i := 374) (by decide +kernel)⟩
theorem lw_p7 : lw_okq (⟨"TrainingRows", "lapseOf", "(II)I"⟩, 5) := ⟨⟨by decide +kernel, by decide +kernel⟩, List.mem_of_getElem? (i := 16) (by decide +kernel), List.mem_of_getElem? (i := 380) (by decide +kernel), List.mem_of_getElem? (i := 381) (by decide +kernel)⟩
theorem lw_p8 : lw_okq (⟨"TrainingRows", "roomNow", "(I)I"⟩, 5) := ⟨⟨by decide +kernel, by decide +kernel⟩, List.mem_of_getElem? (i := 16) (by decide +kernel), List.mem_of_getElem? (i := 385) (by decide +kernel), List.mem_of_getElem? (i := 386) (by decide +kernel)⟩
theorem lw_p9 : lw_okq (⟨"TrainingRows", "instructorsNow", "(I)I"⟩, 5) := ⟨⟨by decide +kernel, by decide +kernel⟩, List.mem_of_getElem? (i := 16) (by decide +kernel), List.mem_of_getElem? (i := 389) (by decide +kernel), List.mem_of_getElem? (i := 390) (by decide +kernel)⟩
theorem lw_p10 : lw_okq (⟨"TrainingRows", "requireRoomForResult", "()V"⟩, 5) := ⟨⟨by decide +kernel, by decide +kernel⟩, List.mem_of_getElem? (i := 16) (by decide +kernel), List.mem_of_getElem? (i := 397) (by decide +kernel), List.mem_of_getElem? (i := 398) (by decide +kernel)⟩
theorem lw_p11 : lw_okq (⟨"TrainingRows", "addResult", "(IIZ)I"⟩, 5) := ⟨⟨by decide +kernel, by decide +kernel⟩, List.mem_of_getElem? (i := 16) (by decide +kernel), List.mem_of_getElem? (i := 406) (by decide +kernel), List.mem_of_getElem? (i := 407) (by decide +kernel)⟩
theorem lw_p12 : lw_okq (⟨"TrainingRows", "personsToRenew", "(II)I"⟩, 5) := ⟨⟨by decide +kernel, by decide +kernel⟩, List.mem_of_getElem? (i := 16) (by decide +kernel), List.mem_of_getElem? (i := 504) (by decide +kernel), List.mem_of_getElem? (i := 505) (by decide +kernel)⟩
theorem lw_p13 : lw_okq (⟨"TrainingRows$Seating", "seatOneMore", "(II)Z"⟩, 6) := ⟨⟨by decide +kernel, by decide +kernel⟩, List.mem_of_getElem? (i := 116) (by decide +kernel), List.mem_of_getElem? (i := 512) (by decide +kernel), List.mem_of_getElem? (i := 513) (by decide +kernel)⟩
theorem lw_p14 : lw_okq (⟨"TrainingRows$Seating", "moveAlong", "(I)V"⟩, 6) := ⟨⟨by decide +kernel, by decide +kernel⟩, List.mem_of_getElem? (i := 116) (by decide +kernel), List.mem_of_getElem? (i := 517) (by decide +kernel), List.mem_of_getElem? (i := 518) (by decide +kernel)⟩
theorem lw_p15 : lw_okq (⟨"TrainingRows$Seating", "sit", "(II)V"⟩, 6) := ⟨⟨by decide +kernel, by decide +kernel⟩, List.mem_of_getElem? (i := 116) (by decide +kernel), List.mem_of_getElem? (i := 521) (by decide +kernel), List.mem_of_getElem? (i := 522) (by decide +kernel)⟩
def lw_privs_1 : List (MethodName × Nat) := [(⟨"java/lang/Throwable", "fillInStackTrace", "(I)Ljava/lang/Throwable;"⟩, 6), (⟨"TrainingRows", "requireCourse", "(I)V"⟩, 5), (⟨"TrainingRows", "requirePair", "(II)V"⟩, 5), (⟨"TrainingRows", "whyBarred", "(II)I"⟩, 5), (⟨"TrainingRows", "holdsNeeds", "(II)Z"⟩, 5), (⟨"TrainingRows", "holdsNow", "(II)Z"⟩, 5), (⟨"TrainingRows", "lapseNow", "(II)I"⟩, 5), (⟨"TrainingRows", "lapseOf", "(II)I"⟩, 5), (⟨"TrainingRows", "roomNow", "(I)I"⟩, 5), (⟨"TrainingRows", "instructorsNow", "(I)I"⟩, 5), (⟨"TrainingRows", "requireRoomForResult", "()V"⟩, 5), (⟨"TrainingRows", "addResult", "(IIZ)I"⟩, 5), (⟨"TrainingRows", "personsToRenew", "(II)I"⟩, 5), (⟨"TrainingRows$Seating", "seatOneMore", "(II)Z"⟩, 6), (⟨"TrainingRows$Seating", "moveAlong", "(I)V"⟩, 6), (⟨"TrainingRows$Seating", "sit", "(II)V"⟩, 6)]
theorem lw_r1 : ∀ q ∈ lw_privs_1, lw_okq q := List.forall_mem_cons.mpr ⟨lw_p0, List.forall_mem_cons.mpr ⟨lw_p1, List.forall_mem_cons.mpr ⟨lw_p2, List.forall_mem_cons.mpr ⟨lw_p3, List.forall_mem_cons.mpr ⟨lw_p4, List.forall_mem_cons.mpr ⟨lw_p5, List.forall_mem_cons.mpr ⟨lw_p6, List.forall_mem_cons.mpr ⟨lw_p7, List.forall_mem_cons.mpr ⟨lw_p8, List.forall_mem_cons.mpr ⟨lw_p9, List.forall_mem_cons.mpr ⟨lw_p10, List.forall_mem_cons.mpr ⟨lw_p11, List.forall_mem_cons.mpr ⟨lw_p12, List.forall_mem_cons.mpr ⟨lw_p13, List.forall_mem_cons.mpr ⟨lw_p14, List.forall_mem_cons.mpr ⟨lw_p15, fun _ h => absurd h List.not_mem_nil⟩⟩⟩⟩⟩⟩⟩⟩⟩⟩⟩⟩⟩⟩⟩⟩
theorem lw_p16 : lw_okq (⟨"TrainingRows$Seating", "settle", "(II)I"⟩, 6) := ⟨⟨by decide +kernel, by decide +kernel⟩, List.mem_of_getElem? (i := 116) (by decide +kernel), List.mem_of_getElem? (i := 525) (by decide +kernel), List.mem_of_getElem? (i := 526) (by decide +kernel)⟩
theorem lw_p17 : lw_okq (⟨"TrainingRows$Seating", "moveTo", "(III)Z"⟩, 6) := ⟨⟨by decide +kernel, by decide +kernel⟩, List.mem_of_getElem? (i := 116) (by decide +kernel), List.mem_of_getElem? (i := 529) (by decide +kernel), List.mem_of_getElem? (i := 530) (by decide +kernel)⟩
theorem lw_p18 : lw_okq (⟨"TrainingRows$Seating", "leave", "(II)V"⟩, 6) := ⟨⟨by decide +kernel, by decide +kernel⟩, List.mem_of_getElem? (i := 116) (by decide +kernel), List.mem_of_getElem? (i := 533) (by decide +kernel), List.mem_of_getElem? (i := 534) (by decide +kernel)⟩
theorem lw_p19 : lw_okq (⟨"TrainingRows$Seating", "seatOneMoreBehind", "(II)Z"⟩, 6) := ⟨⟨by decide +kernel, by decide +kernel⟩, List.mem_of_getElem? (i := 116) (by decide +kernel), List.mem_of_getElem? (i := 537) (by decide +kernel), List.mem_of_getElem? (i := 538) (by decide +kernel)⟩
theorem lw_p20 : lw_okq (⟨"TrainingRows", "allInstructorsNow", "()I"⟩, 5) := ⟨⟨by decide +kernel, by decide +kernel⟩, List.mem_of_getElem? (i := 16) (by decide +kernel), List.mem_of_getElem? (i := 564) (by decide +kernel), List.mem_of_getElem? (i := 565) (by decide +kernel)⟩
theorem lw_p21 : lw_okq (⟨"TrainingRowsModel", "throwing", "(ZZZZ)Z"⟩, 25) := ⟨⟨by decide +kernel, by decide +kernel⟩, List.mem_of_getElem? (i := 569) (by decide +kernel), List.mem_of_getElem? (i := 662) (by decide +kernel), List.mem_of_getElem? (i := 663) (by decide +kernel)⟩
theorem lw_p22 : lw_okq (⟨"TrainingRowsModel", "isCourse", "(I)Z"⟩, 25) := ⟨⟨by decide +kernel, by decide +kernel⟩, List.mem_of_getElem? (i := 569) (by decide +kernel), List.mem_of_getElem? (i := 670) (by decide +kernel), List.mem_of_getElem? (i := 671) (by decide +kernel)⟩
theorem lw_p23 : lw_okq (⟨"TrainingRowsModel", "reaches", "(II)Z"⟩, 25) := ⟨⟨by decide +kernel, by decide +kernel⟩, List.mem_of_getElem? (i := 569) (by decide +kernel), List.mem_of_getElem? (i := 674) (by decide +kernel), List.mem_of_getElem? (i := 675) (by decide +kernel)⟩
theorem lw_p24 : lw_okq (⟨"TrainingRowsModel", "isPair", "(II)Z"⟩, 25) := ⟨⟨by decide +kernel, by decide +kernel⟩, List.mem_of_getElem? (i := 569) (by decide +kernel), List.mem_of_getElem? (i := 694) (by decide +kernel), List.mem_of_getElem? (i := 695) (by decide +kernel)⟩
theorem lw_p25 : lw_okq (⟨"TrainingRowsModel", "reason", "(II)I"⟩, 25) := ⟨⟨by decide +kernel, by decide +kernel⟩, List.mem_of_getElem? (i := 569) (by decide +kernel), List.mem_of_getElem? (i := 698) (by decide +kernel), List.mem_of_getElem? (i := 699) (by decide +kernel)⟩
theorem lw_p26 : lw_okq (⟨"TrainingRowsModel", "isHeld", "(III)Z"⟩, 25) := ⟨⟨by decide +kernel, by decide +kernel⟩, List.mem_of_getElem? (i := 569) (by decide +kernel), List.mem_of_getElem? (i := 702) (by decide +kernel), List.mem_of_getElem? (i := 703) (by decide +kernel)⟩
theorem lw_p27 : lw_okq (⟨"TrainingRowsModel", "passOf", "(III)I"⟩, 25) := ⟨⟨by decide +kernel, by decide +kernel⟩, List.mem_of_getElem? (i := 569) (by decide +kernel), List.mem_of_getElem? (i := 706) (by decide +kernel), List.mem_of_getElem? (i := 707) (by decide +kernel)⟩
theorem lw_p28 : lw_okq (⟨"TrainingRowsModel", "lapseOf", "(II)I"⟩, 25) := ⟨⟨by decide +kernel, by decide +kernel⟩, List.mem_of_getElem? (i := 569) (by decide +kernel), List.mem_of_getElem? (i := 710) (by decide +kernel), List.mem_of_getElem? (i := 711) (by decide +kernel)⟩
theorem lw_p29 : lw_okq (⟨"TrainingRowsModel", "failsOf", "(II)I"⟩, 25) := ⟨⟨by decide +kernel, by decide +kernel⟩, List.mem_of_getElem? (i := 569) (by decide +kernel), List.mem_of_getElem? (i := 714) (by decide +kernel), List.mem_of_getElem? (i := 715) (by decide +kernel)⟩
theorem lw_p30 : lw_okq (⟨"TrainingRowsModel", "latest", "(II)I"⟩, 25) := ⟨⟨by decide +kernel, by decide +kernel⟩, List.mem_of_getElem? (i := 569) (by decide +kernel), List.mem_of_getElem? (i := 718) (by decide +kernel), List.mem_of_getElem? (i := 719) (by decide +kernel)⟩
theorem lw_p31 : lw_okq (⟨"TrainingRowsModel", "roomOf", "(I)I"⟩, 25) := ⟨⟨by decide +kernel, by decide +kernel⟩, List.mem_of_getElem? (i := 569) (by decide +kernel), List.mem_of_getElem? (i := 722) (by decide +kernel), List.mem_of_getElem? (i := 723) (by decide +kernel)⟩
def lw_privs_2 : List (MethodName × Nat) := [(⟨"TrainingRows$Seating", "settle", "(II)I"⟩, 6), (⟨"TrainingRows$Seating", "moveTo", "(III)Z"⟩, 6), (⟨"TrainingRows$Seating", "leave", "(II)V"⟩, 6), (⟨"TrainingRows$Seating", "seatOneMoreBehind", "(II)Z"⟩, 6), (⟨"TrainingRows", "allInstructorsNow", "()I"⟩, 5), (⟨"TrainingRowsModel", "throwing", "(ZZZZ)Z"⟩, 25), (⟨"TrainingRowsModel", "isCourse", "(I)Z"⟩, 25), (⟨"TrainingRowsModel", "reaches", "(II)Z"⟩, 25), (⟨"TrainingRowsModel", "isPair", "(II)Z"⟩, 25), (⟨"TrainingRowsModel", "reason", "(II)I"⟩, 25), (⟨"TrainingRowsModel", "isHeld", "(III)Z"⟩, 25), (⟨"TrainingRowsModel", "passOf", "(III)I"⟩, 25), (⟨"TrainingRowsModel", "lapseOf", "(II)I"⟩, 25), (⟨"TrainingRowsModel", "failsOf", "(II)I"⟩, 25), (⟨"TrainingRowsModel", "latest", "(II)I"⟩, 25), (⟨"TrainingRowsModel", "roomOf", "(I)I"⟩, 25)]
theorem lw_r2 : ∀ q ∈ lw_privs_2, lw_okq q := List.forall_mem_cons.mpr ⟨lw_p16, List.forall_mem_cons.mpr ⟨lw_p17, List.forall_mem_cons.mpr ⟨lw_p18, List.forall_mem_cons.mpr ⟨lw_p19, List.forall_mem_cons.mpr ⟨lw_p20, List.forall_mem_cons.mpr ⟨lw_p21, List.forall_mem_cons.mpr ⟨lw_p22, List.forall_mem_cons.mpr ⟨lw_p23, List.forall_mem_cons.mpr ⟨lw_p24, List.forall_mem_cons.mpr ⟨lw_p25, List.forall_mem_cons.mpr ⟨lw_p26, List.forall_mem_cons.mpr ⟨lw_p27, List.forall_mem_cons.mpr ⟨lw_p28, List.forall_mem_cons.mpr ⟨lw_p29, List.forall_mem_cons.mpr ⟨lw_p30, List.forall_mem_cons.mpr ⟨lw_p31, fun _ h => absurd h List.not_mem_nil⟩⟩⟩⟩⟩⟩⟩⟩⟩⟩⟩⟩⟩⟩⟩⟩
theorem lw_p32 : lw_okq (⟨"TrainingRowsModel", "counts", "(II)Z"⟩, 25) := ⟨⟨by decide +kernel, by decide +kernel⟩, List.mem_of_getElem? (i := 569) (by decide +kernel), List.mem_of_getElem? (i := 726) (by decide +kernel), List.mem_of_getElem? (i := 727) (by decide +kernel)⟩
theorem lw_p33 : lw_okq (⟨"TrainingRowsModel", "add", "(IIZ)I"⟩, 25) := ⟨⟨by decide +kernel, by decide +kernel⟩, List.mem_of_getElem? (i := 569) (by decide +kernel), List.mem_of_getElem? (i := 730) (by decide +kernel), List.mem_of_getElem? (i := 731) (by decide +kernel)⟩
theorem lw_p34 : lw_okq (⟨"TrainingRowsModel", "most", "(I)I"⟩, 25) := ⟨⟨by decide +kernel, by decide +kernel⟩, List.mem_of_getElem? (i := 569) (by decide +kernel), List.mem_of_getElem? (i := 770) (by decide +kernel), List.mem_of_getElem? (i := 771) (by decide +kernel)⟩
theorem lw_p35 : lw_okq (⟨"TrainingRowsModel", "seat", "(I)Z"⟩, 25) := ⟨⟨by decide +kernel, by decide +kernel⟩, List.mem_of_getElem? (i := 569) (by decide +kernel), List.mem_of_getElem? (i := 774) (by decide +kernel), List.mem_of_getElem? (i := 775) (by decide +kernel)⟩
theorem lw_p36 : lw_okq (⟨"TrainingRowsModel", "fixedTo", "(I)I"⟩, 25) := ⟨⟨by decide +kernel, by decide +kernel⟩, List.mem_of_getElem? (i := 569) (by decide +kernel), List.mem_of_getElem? (i := 778) (by decide +kernel), List.mem_of_getElem? (i := 779) (by decide +kernel)⟩
theorem lw_p37 : lw_okq (⟨"TrainingRowsModel", "shift", "(II)V"⟩, 25) := ⟨⟨by decide +kernel, by decide +kernel⟩, List.mem_of_getElem? (i := 569) (by decide +kernel), List.mem_of_getElem? (i := 782) (by decide +kernel), List.mem_of_getElem? (i := 783) (by decide +kernel)⟩
theorem lw_p38 : lw_okq (⟨"TrainingRowsModel", "onSeat", "(I)I"⟩, 25) := ⟨⟨by decide +kernel, by decide +kernel⟩, List.mem_of_getElem? (i := 569) (by decide +kernel), List.mem_of_getElem? (i := 786) (by decide +kernel), List.mem_of_getElem? (i := 787) (by decide +kernel)⟩
def lw_privs_3 : List (MethodName × Nat) := [(⟨"TrainingRowsModel", "counts", "(II)Z"⟩, 25), (⟨"TrainingRowsModel", "add", "(IIZ)I"⟩, 25), (⟨"TrainingRowsModel", "most", "(I)I"⟩, 25), (⟨"TrainingRowsModel", "seat", "(I)Z"⟩, 25), (⟨"TrainingRowsModel", "fixedTo", "(I)I"⟩, 25), (⟨"TrainingRowsModel", "shift", "(II)V"⟩, 25), (⟨"TrainingRowsModel", "onSeat", "(I)I"⟩, 25)]
theorem lw_r3 : ∀ q ∈ lw_privs_3, lw_okq q := List.forall_mem_cons.mpr ⟨lw_p32, List.forall_mem_cons.mpr ⟨lw_p33, List.forall_mem_cons.mpr ⟨lw_p34, List.forall_mem_cons.mpr ⟨lw_p35, List.forall_mem_cons.mpr ⟨lw_p36, List.forall_mem_cons.mpr ⟨lw_p37, List.forall_mem_cons.mpr ⟨lw_p38, fun _ h => absurd h List.not_mem_nil⟩⟩⟩⟩⟩⟩⟩
def lw_privs : List (MethodName × Nat) := lw_privs_1 ++ (lw_privs_2 ++ (lw_privs_3))
def lw_tbl : List Cond := k2_sels lw_privs ++ tables_1
theorem lw_privs_ok : ∀ q ∈ lw_privs, lw_okq q := by
  show ∀ q ∈ lw_privs_1 ++ (lw_privs_2 ++ (lw_privs_3)), lw_okq q
  exact List.forall_mem_append.mpr ⟨lw_r1, List.forall_mem_append.mpr ⟨lw_r2, lw_r3⟩⟩
end
section
/-! the classes: names, fields in order, types -/
def jT0 : u_T := fun k => match k with
  | 0 => ("TrainingRows$Courses", "terms", "[I", true)
  | 1 => ("TrainingRows$Courses", "passMarks", "[I", true)
  | 2 => ("TrainingRows$Courses", "caps", "[I", true)
  | 3 => ("TrainingRows$Courses", "ratios", "[I", true)
  | 4 => ("TrainingRows$Courses", "needs", "[I", true)
  | 5 => ("TrainingRows$Courses", "needsByWay", "[I", true)
  | 6 => ("TrainingRows$Courses", "instructors", "[I", true)
  | 7 => ("TrainingRows$Courses", "resultsToday", "[I", true)
  | 8 => ("TrainingRows$Courses", "started", "[Z", true)
  | _ => ("TrainingRows$Courses", "number", "I", false)
def jY0 : Nat → FieldType := fun k => match k with
  | 0 => .array .int
  | 1 => .array .int
  | 2 => .array .int
  | 3 => .array .int
  | 4 => .array .int
  | 5 => .array .int
  | 6 => .array .int
  | 7 => .array .int
  | 8 => .array .boolean
  | _ => .int
def jT1 : u_T := fun k => match k with
  | 0 => ("TrainingRows$Records", "days", "[I", true)
  | 1 => ("TrainingRows$Records", "passBefore", "[I", true)
  | 2 => ("TrainingRows$Records", "putOff", "[I", true)
  | 3 => ("TrainingRows$Records", "latestPass", "[I", true)
  | 4 => ("TrainingRows$Records", "latestTryDay", "[I", true)
  | 5 => ("TrainingRows$Records", "fails", "[I", true)
  | 6 => ("TrainingRows$Records", "usedDay", "[I", true)
  | 7 => ("TrainingRows$Records", "results", "I", false)
  | _ => ("TrainingRows$Records", "passes", "I", false)
def jY1 : Nat → FieldType := fun k => match k with
  | 0 => .array .int
  | 1 => .array .int
  | 2 => .array .int
  | 3 => .array .int
  | 4 => .array .int
  | 5 => .array .int
  | 6 => .array .int
  | 7 => .int
  | _ => .int
def jT2 : u_T := fun k => match k with
  | 0 => ("TrainingRows$Seating", "fits", "[I", true)
  | 1 => ("TrainingRows$Seating", "personOn", "[I", true)
  | 2 => ("TrainingRows$Seating", "seatOf", "[I", true)
  | 3 => ("TrainingRows$Seating", "queue", "[I", true)
  | 4 => ("TrainingRows$Seating", "reachedFrom", "[I", true)
  | _ => ("TrainingRows$Seating", "seats", "I", false)
def jY2 : Nat → FieldType := fun k => match k with
  | 0 => .array .int
  | 1 => .array .int
  | 2 => .array .int
  | 3 => .array .int
  | 4 => .array .int
  | _ => .int
def jT3 : u_T := fun k => match k with
  | 0 => ("TrainingRows", "courses", "LTrainingRows$Courses;", true)
  | 1 => ("TrainingRows", "records", "LTrainingRows$Records;", true)
  | 2 => ("TrainingRows", "seating", "LTrainingRows$Seating;", true)
  | 3 => ("TrainingRows", "today", "I", false)
  | _ => ("TrainingRows", "pauseDays", "I", false)
def jY3 : Nat → FieldType := fun k => match k with
  | 0 => .object "TrainingRows$Courses"
  | 1 => .object "TrainingRows$Records"
  | 2 => .object "TrainingRows$Seating"
  | 3 => .int
  | _ => .int
def jT4 : u_T := fun k => match k with
  | 0 => ("TrainingRowsModel", "thrown", "I", false)
  | 1 => ("TrainingRowsModel", "day", "I", false)
  | 2 => ("TrainingRowsModel", "pause", "I", false)
  | 3 => ("TrainingRowsModel", "courses", "I", false)
  | 4 => ("TrainingRowsModel", "term", "[I", true)
  | 5 => ("TrainingRowsModel", "pass", "[I", true)
  | 6 => ("TrainingRowsModel", "cap", "[I", true)
  | 7 => ("TrainingRowsModel", "ratio", "[I", true)
  | 8 => ("TrainingRowsModel", "needs", "[Z", true)
  | 9 => ("TrainingRowsModel", "teaches", "[Z", true)
  | 10 => ("TrainingRowsModel", "results", "I", false)
  | 11 => ("TrainingRowsModel", "who", "[I", true)
  | 12 => ("TrainingRowsModel", "of", "[I", true)
  | 13 => ("TrainingRowsModel", "when", "[I", true)
  | 14 => ("TrainingRowsModel", "passed", "[Z", true)
  | 15 => ("TrainingRowsModel", "puts", "[I", true)
  | 16 => ("TrainingRowsModel", "put", "[I", true)
  | 17 => ("TrainingRowsModel", "used", "[I", true)
  | 18 => ("TrainingRowsModel", "seats", "I", false)
  | 19 => ("TrainingRowsModel", "seated", "[I", true)
  | 20 => ("TrainingRowsModel", "fixed", "[I", true)
  | 21 => ("TrainingRowsModel", "sits", "[I", true)
  | 22 => ("TrainingRowsModel", "can", "[Z", true)
  | 23 => ("TrainingRowsModel", "from", "[I", true)
  | _ => ("TrainingRowsModel", "queue", "[I", true)
def jY4 : Nat → FieldType := fun k => match k with
  | 0 => .int
  | 1 => .int
  | 2 => .int
  | 3 => .int
  | 4 => .array .int
  | 5 => .array .int
  | 6 => .array .int
  | 7 => .array .int
  | 8 => .array .boolean
  | 9 => .array .boolean
  | 10 => .int
  | 11 => .array .int
  | 12 => .array .int
  | 13 => .array .int
  | 14 => .array .boolean
  | 15 => .array .int
  | 16 => .array .int
  | 17 => .array .int
  | 18 => .int
  | 19 => .array .int
  | 20 => .array .int
  | 21 => .array .int
  | 22 => .array .boolean
  | 23 => .array .int
  | _ => .array .int
abbrev jCl : List vw_C := [("TrainingRows$Courses", jT0, 10), ("TrainingRows$Records", jT1, 9), ("TrainingRows$Seating", jT2, 6), ("TrainingRows", jT3, 5), ("TrainingRowsModel", jT4, 25)]
def jYs : List (Nat → FieldType) := [jY0, jY1, jY2, jY3, jY4]
def jcn (c : Nat) : String := (["TrainingRows$Courses", "TrainingRows$Records", "TrainingRows$Seating", "TrainingRows", "TrainingRowsModel", "TrainingRowsLaw", "java/util/Arrays", "java/lang/Math"] : List String).getD c ""
/-! the methods -/
def jN : List MethodName := [⟨"java/util/Arrays", "fill", "([II)V"⟩,
  ⟨"java/lang/Math", "max", "(II)I"⟩,
  ⟨"java/lang/Math", "min", "(II)I"⟩,
  ⟨"TrainingRows$Courses", "<init>", "()V"⟩,
  ⟨"TrainingRows$Courses", "isFull", "()Z"⟩,
  ⟨"TrainingRows$Courses", "add", "(III)I"⟩,
  ⟨"TrainingRows$Courses", "wouldNeedItself", "(II)Z"⟩,
  ⟨"TrainingRows$Courses", "addNeed", "(II)V"⟩,
  ⟨"TrainingRows$Courses", "noteResult", "(I)V"⟩,
  ⟨"TrainingRows$Courses", "forgetResultsToday", "()V"⟩,
  ⟨"TrainingRows$Records", "<init>", "()V"⟩,
  ⟨"TrainingRows$Records", "isFull", "()Z"⟩,
  ⟨"TrainingRows$Records", "addResult", "(IIZ)I"⟩,
  ⟨"TrainingRows$Records", "addUse", "(III)I"⟩,
  ⟨"TrainingRows$Records", "latestPassUpTo", "(II)I"⟩,
  ⟨"TrainingRows$Seating", "<init>", "()V"⟩,
  ⟨"TrainingRows$Seating", "clear", "(I)V"⟩,
  ⟨"TrainingRows$Seating", "fill", "()I"⟩,
  ⟨"TrainingRows$Seating", "settle", "(II)I"⟩,
  ⟨"TrainingRows$Seating", "moveTo", "(III)Z"⟩,
  ⟨"TrainingRows$Seating", "sit", "(II)V"⟩,
  ⟨"TrainingRows$Seating", "leave", "(II)V"⟩,
  ⟨"TrainingRows$Seating", "seatOneMoreBehind", "(II)Z"⟩,
  ⟨"TrainingRows$Seating", "seatOneMore", "(II)Z"⟩,
  ⟨"TrainingRows$Seating", "moveAlong", "(I)V"⟩,
  ⟨"TrainingRows", "<init>", "()V"⟩,
  ⟨"TrainingRows", "course", "(III)I"⟩,
  ⟨"TrainingRows", "need", "(II)V"⟩,
  ⟨"TrainingRows", "pause", "(I)V"⟩,
  ⟨"TrainingRows", "day", "(I)V"⟩,
  ⟨"TrainingRows", "ratio", "(II)V"⟩,
  ⟨"TrainingRows", "result", "(III)I"⟩,
  ⟨"TrainingRows", "found", "(II)I"⟩,
  ⟨"TrainingRows", "teach", "(IIZ)V"⟩,
  ⟨"TrainingRows", "use", "(II)I"⟩,
  ⟨"TrainingRows", "holds", "(III)Z"⟩,
  ⟨"TrainingRows", "lapse", "(II)I"⟩,
  ⟨"TrainingRows", "failed", "(II)I"⟩,
  ⟨"TrainingRows", "barred", "(II)I"⟩,
  ⟨"TrainingRows", "room", "(I)I"⟩,
  ⟨"TrainingRows", "plan", "(JII)I"⟩,
  ⟨"TrainingRows", "seated", "(I)I"⟩,
  ⟨"TrainingRows", "tomorrow", "(II)I"⟩,
  ⟨"TrainingRows", "count", "(I)I"⟩,
  ⟨"TrainingRows", "requireCourse", "(I)V"⟩,
  ⟨"TrainingRows", "requirePair", "(II)V"⟩,
  ⟨"TrainingRows", "requireRange", "(III)V"⟩,
  ⟨"TrainingRows", "requireRoomForResult", "()V"⟩,
  ⟨"TrainingRows", "pairOf", "(II)I"⟩,
  ⟨"TrainingRows", "isIn", "(II)Z"⟩,
  ⟨"TrainingRows", "courseOfSeat", "(JI)I"⟩,
  ⟨"TrainingRows", "addResult", "(IIZ)I"⟩,
  ⟨"TrainingRows", "lapseNow", "(II)I"⟩,
  ⟨"TrainingRows", "lapseOf", "(II)I"⟩,
  ⟨"TrainingRows", "holdsNow", "(II)Z"⟩,
  ⟨"TrainingRows", "whyBarred", "(II)I"⟩,
  ⟨"TrainingRows", "holdsNeeds", "(II)Z"⟩,
  ⟨"TrainingRows", "roomNow", "(I)I"⟩,
  ⟨"TrainingRows", "instructorsNow", "(I)I"⟩,
  ⟨"TrainingRows", "allInstructorsNow", "()I"⟩,
  ⟨"TrainingRows", "personsToRenew", "(II)I"⟩,
  ⟨"TrainingRowsModel", "<init>", "()V"⟩,
  ⟨"TrainingRowsModel", "thrown", "()I"⟩,
  ⟨"TrainingRowsModel", "throwing", "(ZZZZ)Z"⟩,
  ⟨"TrainingRowsModel", "in", "(III)Z"⟩,
  ⟨"TrainingRowsModel", "isCourse", "(I)Z"⟩,
  ⟨"TrainingRowsModel", "isPair", "(II)Z"⟩,
  ⟨"TrainingRowsModel", "course", "(III)I"⟩,
  ⟨"TrainingRowsModel", "reaches", "(II)Z"⟩,
  ⟨"TrainingRowsModel", "need", "(II)V"⟩,
  ⟨"TrainingRowsModel", "pause", "(I)V"⟩,
  ⟨"TrainingRowsModel", "day", "(I)V"⟩,
  ⟨"TrainingRowsModel", "ratio", "(II)V"⟩,
  ⟨"TrainingRowsModel", "passOf", "(III)I"⟩,
  ⟨"TrainingRowsModel", "lapseOf", "(II)I"⟩,
  ⟨"TrainingRowsModel", "isHeld", "(III)Z"⟩,
  ⟨"TrainingRowsModel", "failsOf", "(II)I"⟩,
  ⟨"TrainingRowsModel", "latest", "(II)I"⟩,
  ⟨"TrainingRowsModel", "reason", "(II)I"⟩,
  ⟨"TrainingRowsModel", "counts", "(II)Z"⟩,
  ⟨"TrainingRowsModel", "roomOf", "(I)I"⟩,
  ⟨"TrainingRowsModel", "add", "(IIZ)I"⟩,
  ⟨"TrainingRowsModel", "result", "(III)I"⟩,
  ⟨"TrainingRowsModel", "found", "(II)I"⟩,
  ⟨"TrainingRowsModel", "teach", "(IIZ)V"⟩,
  ⟨"TrainingRowsModel", "use", "(II)I"⟩,
  ⟨"TrainingRowsModel", "holds", "(III)Z"⟩,
  ⟨"TrainingRowsModel", "lapse", "(II)I"⟩,
  ⟨"TrainingRowsModel", "failed", "(II)I"⟩,
  ⟨"TrainingRowsModel", "barred", "(II)I"⟩,
  ⟨"TrainingRowsModel", "room", "(I)I"⟩,
  ⟨"TrainingRowsModel", "seat", "(I)Z"⟩,
  ⟨"TrainingRowsModel", "shift", "(II)V"⟩,
  ⟨"TrainingRowsModel", "onSeat", "(I)I"⟩,
  ⟨"TrainingRowsModel", "fixedTo", "(I)I"⟩,
  ⟨"TrainingRowsModel", "most", "(I)I"⟩,
  ⟨"TrainingRowsModel", "plan", "(JII)I"⟩,
  ⟨"TrainingRowsModel", "seated", "(I)I"⟩,
  ⟨"TrainingRowsModel", "tomorrow", "(II)I"⟩,
  ⟨"TrainingRowsModel", "count", "(I)I"⟩,
  ⟨"TrainingRowsLaw", "course", "(LTrainingRows;III[J)I"⟩,
  ⟨"TrainingRowsLaw", "need", "(LTrainingRows;II)I"⟩,
  ⟨"TrainingRowsLaw", "pause", "(LTrainingRows;I)I"⟩,
  ⟨"TrainingRowsLaw", "day", "(LTrainingRows;I)I"⟩,
  ⟨"TrainingRowsLaw", "ratio", "(LTrainingRows;II)I"⟩,
  ⟨"TrainingRowsLaw", "result", "(LTrainingRows;III[J)I"⟩,
  ⟨"TrainingRowsLaw", "found", "(LTrainingRows;II[J)I"⟩,
  ⟨"TrainingRowsLaw", "teach", "(LTrainingRows;IIZ)I"⟩,
  ⟨"TrainingRowsLaw", "use", "(LTrainingRows;II[J)I"⟩,
  ⟨"TrainingRowsLaw", "holds", "(LTrainingRows;III[J)I"⟩,
  ⟨"TrainingRowsLaw", "lapse", "(LTrainingRows;II[J)I"⟩,
  ⟨"TrainingRowsLaw", "failed", "(LTrainingRows;II[J)I"⟩,
  ⟨"TrainingRowsLaw", "barred", "(LTrainingRows;II[J)I"⟩,
  ⟨"TrainingRowsLaw", "room", "(LTrainingRows;I[J)I"⟩,
  ⟨"TrainingRowsLaw", "plan", "(LTrainingRows;JII[J)I"⟩,
  ⟨"TrainingRowsLaw", "seated", "(LTrainingRows;I[J)I"⟩,
  ⟨"TrainingRowsLaw", "tomorrow", "(LTrainingRows;II[J)I"⟩,
  ⟨"TrainingRowsLaw", "count", "(LTrainingRows;I[J)I"⟩,
  ⟨"TrainingRowsLaw", "law", "([I)Z"⟩]
def jB : List ByteArray := [prog_16_method_103_code, prog_11_method_65_code, prog_11_method_69_code, prog_2_method_1_code, prog_2_method_2_code, prog_2_method_3_code, prog_2_method_4_code, prog_2_method_5_code, prog_2_method_6_code, prog_2_method_7_code, prog_3_method_1_code, prog_3_method_2_code, prog_3_method_3_code, prog_3_method_4_code, prog_3_method_5_code, prog_4_method_1_code, prog_4_method_2_code, prog_4_method_3_code, prog_4_method_4_code, prog_4_method_5_code, prog_4_method_6_code, prog_4_method_7_code, prog_4_method_8_code, prog_4_method_9_code, prog_4_method_10_code, prog_1_method_1_code, prog_1_method_2_code, prog_1_method_3_code, prog_1_method_4_code, prog_1_method_5_code, prog_1_method_6_code, prog_1_method_7_code, prog_1_method_8_code, prog_1_method_9_code, prog_1_method_10_code, prog_1_method_11_code, prog_1_method_12_code, prog_1_method_13_code, prog_1_method_14_code, prog_1_method_15_code, prog_1_method_16_code, prog_1_method_17_code, prog_1_method_18_code, prog_1_method_19_code, prog_1_method_20_code, prog_1_method_21_code, prog_1_method_22_code, prog_1_method_23_code, prog_1_method_24_code, prog_1_method_25_code, prog_1_method_26_code, prog_1_method_27_code, prog_1_method_28_code, prog_1_method_29_code, prog_1_method_30_code, prog_1_method_31_code, prog_1_method_32_code, prog_1_method_33_code, prog_1_method_34_code, prog_1_method_35_code, prog_1_method_36_code, prog_6_method_1_code, prog_6_method_2_code, prog_6_method_3_code, prog_6_method_4_code, prog_6_method_5_code, prog_6_method_6_code, prog_6_method_7_code, prog_6_method_8_code, prog_6_method_9_code, prog_6_method_10_code, prog_6_method_11_code, prog_6_method_12_code, prog_6_method_13_code, prog_6_method_14_code, prog_6_method_15_code, prog_6_method_16_code, prog_6_method_17_code, prog_6_method_18_code, prog_6_method_19_code, prog_6_method_20_code, prog_6_method_21_code, prog_6_method_22_code, prog_6_method_23_code, prog_6_method_24_code, prog_6_method_25_code, prog_6_method_26_code, prog_6_method_27_code, prog_6_method_28_code, prog_6_method_29_code, prog_6_method_30_code, prog_6_method_31_code, prog_6_method_32_code, prog_6_method_33_code, prog_6_method_34_code, prog_6_method_35_code, prog_6_method_36_code, prog_6_method_37_code, prog_6_method_38_code, prog_6_method_39_code, method_3_code, method_4_code, method_5_code, method_6_code, method_7_code, method_8_code, method_9_code, method_10_code, method_11_code, method_12_code, method_13_code, method_14_code, method_15_code, method_16_code, method_17_code, method_18_code, method_19_code, method_20_code, code]
def jL : List Nat := [4, 2, 2, 1, 1, 5, 3, 5, 2, 1, 1, 1, 5, 5, 5, 1, 2, 4, 5, 6, 3, 3, 4, 8, 6, 1, 4, 3, 2, 2, 3, 4, 3, 4, 3, 4, 3, 3, 3, 2, 7, 2, 5, 2, 2, 3, 3, 1, 2, 2, 3, 4, 3, 3, 3, 5, 4, 3, 4, 3, 6, 2, 1, 5, 3, 2, 3, 4, 7, 4, 2, 2, 3, 6, 5, 5, 5, 5, 4, 3, 4, 4, 6, 6, 5, 5, 4, 4, 3, 3, 2, 7, 6, 4, 4, 4, 11, 2, 5, 6, 6, 4, 3, 3, 4, 6, 5, 5, 5, 6, 5, 5, 5, 4, 7, 4, 5, 4, 7]
def jRt : List (Option FieldType) := [none, some .int, some .int, none, some .boolean, some .int, some .boolean, none, none, none, none, some .boolean, some .int, some .int, some .int, none, none, some .int, some .int, some .boolean, none, none, some .boolean, some .boolean, none, none, some .int, none, none, none, none, some .int, some .int, none, some .int, some .boolean, some .int, some .int, some .int, some .int, some .int, some .int, some .int, some .int, none, none, none, none, some .int, some .boolean, some .int, some .int, some .int, some .int, some .boolean, some .int, some .boolean, some .int, some .int, some .int, some .int, none, some .int, some .boolean, some .boolean, some .boolean, some .boolean, some .int, some .boolean, none, none, none, none, some .int, some .int, some .boolean, some .int, some .int, some .int, some .boolean, some .int, some .int, some .int, some .int, none, some .int, some .boolean, some .int, some .int, some .int, some .int, some .boolean, none, some .int, some .int, some .int, some .int, some .int, some .int, some .int, some .int, some .int, some .int, some .int, some .int, some .int, some .int, some .int, some .int, some .int, some .int, some .int, some .int, some .int, some .int, some .int, some .int, some .int, some .boolean]
def jHs : List (List (Nat × Nat × Nat × Nat)) := [[], [], [], [], [], [], [], [], [], [], [], [], [], [], [], [], [], [], [], [], [], [], [], [], [], [], [], [], [], [], [], [], [], [], [], [], [], [], [], [], [], [], [], [], [], [], [], [], [], [], [], [], [], [], [], [], [], [], [], [], [], [], [], [], [], [], [], [], [], [], [], [], [], [], [], [], [], [], [], [], [], [], [], [], [], [], [], [], [], [], [], [], [], [], [], [], [], [], [], [], [(0, 12, 15, 13), (0, 12, 19, 15)], [(0, 6, 9, 21), (0, 6, 12, 23)], [(0, 5, 8, 13)], [(0, 5, 8, 13)], [(0, 6, 9, 21), (0, 6, 12, 13)], [(0, 12, 15, 21), (0, 12, 19, 13), (0, 12, 23, 23), (0, 12, 27, 15)], [(0, 10, 13, 21), (0, 10, 17, 23), (0, 10, 21, 15)], [(0, 7, 10, 21), (0, 7, 14, 23)], [(0, 10, 13, 21), (0, 10, 17, 23)], [(0, 19, 22, 21), (0, 19, 26, 13)], [(0, 10, 13, 21)], [(0, 10, 13, 21)], [(0, 10, 13, 21)], [(0, 9, 12, 21)], [(0, 13, 16, 21), (0, 13, 20, 13)], [(0, 9, 12, 21)], [(0, 10, 13, 21), (0, 10, 17, 13)], [(0, 9, 12, 21)], []]
def jCs : List Nat := [6, 7, 7, 0, 0, 0, 0, 0, 0, 0, 1, 1, 1, 1, 1, 2, 2, 2, 2, 2, 2, 2, 2, 2, 2, 3, 3, 3, 3, 3, 3, 3, 3, 3, 3, 3, 3, 3, 3, 3, 3, 3, 3, 3, 3, 3, 3, 3, 3, 3, 3, 3, 3, 3, 3, 3, 3, 3, 3, 3, 3, 4, 4, 4, 4, 4, 4, 4, 4, 4, 4, 4, 4, 4, 4, 4, 4, 4, 4, 4, 4, 4, 4, 4, 4, 4, 4, 4, 4, 4, 4, 4, 4, 4, 4, 4, 4, 4, 4, 4, 5, 5, 5, 5, 5, 5, 5, 5, 5, 5, 5, 5, 5, 5, 5, 5, 5, 5, 5]
def jPs : List Nat := [2, 2, 2, 0, 0, 3, 2, 2, 1, 0, 0, 0, 3, 3, 2, 0, 1, 0, 2, 3, 2, 2, 2, 2, 1, 0, 3, 2, 1, 1, 2, 3, 2, 3, 2, 3, 2, 2, 2, 1, 3, 1, 2, 1, 1, 2, 3, 0, 2, 2, 2, 3, 2, 2, 2, 2, 2, 1, 1, 0, 2, 0, 0, 4, 3, 1, 2, 3, 2, 2, 1, 1, 2, 3, 2, 3, 2, 2, 2, 2, 1, 3, 3, 2, 3, 2, 3, 2, 2, 2, 1, 1, 2, 1, 1, 1, 3, 1, 2, 1, 5, 3, 2, 2, 3, 5, 4, 4, 4, 5, 4, 4, 4, 3, 5, 3, 4, 3, 1]
def jFL : List ((Nat × Nat) × Nat × Nat) := [((0, 9), 0, 0), ((0, 15), 0, 1), ((0, 18), 0, 2), ((0, 21), 0, 3), ((0, 24), 0, 4), ((0, 27), 0, 5), ((0, 30), 0, 6), ((0, 33), 0, 7), ((0, 36), 0, 8), ((0, 40), 0, 9), ((1, 9), 1, 0), ((1, 15), 1, 1), ((1, 18), 1, 2), ((1, 21), 1, 3), ((1, 24), 1, 4), ((1, 27), 1, 5), ((1, 30), 1, 6), ((1, 39), 1, 7), ((1, 43), 1, 8), ((2, 9), 2, 0), ((2, 15), 2, 1), ((2, 18), 2, 2), ((2, 21), 2, 3), ((2, 24), 2, 4), ((2, 27), 2, 5), ((3, 12), 3, 0), ((3, 19), 3, 1), ((3, 26), 3, 2), ((3, 30), 3, 3), ((3, 34), 3, 4), ((3, 69), 0, 4), ((3, 85), 0, 3), ((3, 106), 0, 1), ((3, 113), 0, 8), ((3, 119), 0, 6), ((3, 132), 0, 2), ((3, 147), 1, 5), ((3, 162), 2, 0), ((3, 172), 2, 5), ((3, 180), 2, 1), ((3, 188), 0, 9), ((3, 191), 1, 7), ((3, 194), 1, 8), ((3, 217), 1, 3), ((3, 220), 1, 0), ((3, 223), 0, 0), ((3, 226), 1, 2), ((3, 232), 1, 4), ((3, 238), 0, 7), ((4, 7), 4, 2), ((4, 13), 4, 4), ((4, 17), 4, 5), ((4, 20), 4, 6), ((4, 23), 4, 7), ((4, 26), 4, 8), ((4, 30), 4, 9), ((4, 33), 4, 11), ((4, 36), 4, 12), ((4, 39), 4, 13), ((4, 42), 4, 14), ((4, 45), 4, 15), ((4, 48), 4, 16), ((4, 51), 4, 17), ((4, 54), 4, 19), ((4, 57), 4, 20), ((4, 60), 4, 21), ((4, 63), 4, 22), ((4, 66), 4, 23), ((4, 69), 4, 24), ((4, 72), 4, 0), ((4, 75), 4, 3), ((4, 94), 4, 1), ((4, 97), 4, 10), ((4, 144), 4, 18)]
def jCL : List ((Nat × Nat) × Nat × Nat) := [((0, 44), 4, 49), ((0, 48), 1, 0), ((1, 33), 1, 0), ((2, 31), 1, 0), ((2, 37), 0, 23), ((2, 41), 0, 18), ((2, 45), 4, 49), ((2, 48), 0, 19), ((2, 52), 0, 21), ((2, 56), 0, 20), ((2, 59), 0, 22), ((2, 62), 0, 24), ((3, 11), 5, 3), ((3, 18), 2, 10), ((3, 25), 5, 15), ((3, 37), 1, 46), ((3, 41), 0, 4), ((3, 52), 0, 5), ((3, 56), 0, 44), ((3, 60), 0, 6), ((3, 73), 1, 49), ((3, 78), 0, 7), ((3, 82), 0, 9), ((3, 88), 0, 45), ((3, 91), 0, 55), ((3, 97), 0, 57), ((3, 103), 0, 47), ((3, 109), 0, 51), ((3, 124), 0, 54), ((3, 129), 1, 48), ((3, 135), 0, 13), ((3, 138), 0, 14), ((3, 141), 0, 53), ((3, 144), 0, 52), ((3, 150), 1, 2), ((3, 155), 1, 50), ((3, 159), 0, 16), ((3, 165), 0, 60), ((3, 168), 0, 17), ((3, 197), 0, 59), ((3, 208), 0, 11), ((3, 213), 0, 8), ((3, 216), 0, 12), ((3, 229), 0, 56), ((3, 235), 0, 58), ((3, 241), 1, 1), ((4, 78), 1, 64), ((4, 82), 0, 65), ((4, 86), 0, 63), ((4, 90), 0, 68), ((4, 100), 0, 73), ((4, 104), 0, 74), ((4, 108), 0, 75), ((4, 111), 0, 76), ((4, 114), 0, 77), ((4, 117), 0, 79), ((4, 120), 0, 66), ((4, 123), 0, 78), ((4, 126), 0, 80), ((4, 130), 0, 81), ((4, 134), 0, 94), ((4, 137), 0, 92), ((4, 141), 0, 93), ((4, 147), 0, 91), ((4, 150), 0, 95), ((5, 7), 0, 26), ((5, 17), 0, 27), ((5, 25), 0, 28), ((5, 29), 0, 29), ((5, 32), 0, 30), ((5, 35), 0, 31), ((5, 38), 0, 32), ((5, 42), 0, 33), ((5, 46), 0, 34), ((5, 49), 0, 35), ((5, 53), 0, 36), ((5, 56), 0, 37), ((5, 59), 0, 38), ((5, 62), 0, 39), ((5, 66), 0, 40), ((5, 70), 0, 41), ((5, 73), 0, 42), ((5, 76), 0, 43), ((5, 79), 2, 25), ((5, 82), 2, 61), ((5, 83), 6, 100), ((5, 88), 0, 67), ((5, 89), 0, 62), ((5, 93), 6, 101), ((5, 96), 0, 69), ((5, 97), 6, 102), ((5, 100), 0, 70), ((5, 101), 6, 103), ((5, 103), 0, 71), ((5, 104), 6, 104), ((5, 106), 0, 72), ((5, 107), 6, 105), ((5, 109), 0, 82), ((5, 110), 6, 106), ((5, 113), 0, 83), ((5, 114), 6, 107), ((5, 117), 0, 84), ((5, 118), 6, 108), ((5, 120), 0, 85), ((5, 121), 6, 109), ((5, 123), 0, 86), ((5, 124), 6, 110), ((5, 126), 0, 87), ((5, 127), 6, 111), ((5, 129), 0, 88), ((5, 130), 6, 112), ((5, 132), 0, 89), ((5, 133), 6, 113), ((5, 136), 0, 90), ((5, 139), 6, 114), ((5, 142), 0, 96), ((5, 143), 6, 115), ((5, 145), 0, 97), ((5, 146), 6, 116), ((5, 148), 0, 98), ((5, 149), 6, 117), ((5, 151), 0, 99)]
def jNL : List ((Nat × Nat) × Nat) := [((3, 9), 0), ((3, 16), 1), ((3, 23), 2), ((5, 8), 3), ((5, 80), 4)]
def jIL : List (Nat × Nat) := [(0, 3), (1, 3), (2, 3), (3, 3), (4, 1)]
def jXL : List ((Nat × Nat) × Nat × Nat × Nat × String × String) := [((26, 32), 45, 47, 49, "java/lang/UnsupportedOperationException", "no room for one more course"),
  ((27, 22), 64, 66, 68, "java/lang/IllegalStateException", "the course would need itself"),
  ((27, 48), 64, 76, 68, "java/lang/IllegalStateException", "the course needs that one already"),
  ((31, 22), 64, 95, 68, "java/lang/IllegalStateException", "the person is barred"),
  ((31, 40), 45, 101, 49, "java/lang/UnsupportedOperationException", "the course has no room"),
  ((32, 18), 64, 117, 68, "java/lang/IllegalStateException", "the course has a result"),
  ((33, 23), 64, 122, 68, "java/lang/IllegalStateException", "it is so already"),
  ((33, 46), 64, 127, 68, "java/lang/IllegalStateException", "the person does not hold the course"),
  ((34, 15), 64, 127, 68, "java/lang/IllegalStateException", "the person does not hold the course"),
  ((41, 15), 175, 177, 179, "java/lang/IllegalArgumentException", "the latest plan has no such seat"),
  ((42, 9), 183, 185, 187, "java/lang/IndexOutOfBoundsException", "a place in a row is 0 at least"),
  ((43, 61), 175, 200, 179, "java/lang/IllegalArgumentException", "no such count"),
  ((44, 15), 175, 202, 179, "java/lang/IllegalArgumentException", "no such course"),
  ((45, 10), 175, 204, 179, "java/lang/IllegalArgumentException", "no such person"),
  ((46, 10), 183, 206, 187, "java/lang/IndexOutOfBoundsException", "a number is outside its range"),
  ((47, 10), 45, 209, 49, "java/lang/UnsupportedOperationException", "no room for one more result")]
def jHC : List (List (Nat × Nat × Nat × String)) := [[], [], [], [], [], [], [], [], [], [], [], [], [], [], [], [], [], [], [], [], [], [], [], [], [], [], [], [], [], [], [], [], [], [], [], [], [], [], [], [], [], [], [], [], [], [], [], [], [], [], [], [], [], [], [], [], [], [], [], [], [], [], [], [], [], [], [], [], [], [], [], [], [], [], [], [], [], [], [], [], [], [], [], [], [], [], [], [], [], [], [], [], [], [], [], [], [], [], [], [], [(0, 12, 15, "java/lang/IndexOutOfBoundsException"), (0, 12, 19, "java/lang/UnsupportedOperationException")], [(0, 6, 9, "java/lang/IllegalArgumentException"), (0, 6, 12, "java/lang/IllegalStateException")], [(0, 5, 8, "java/lang/IndexOutOfBoundsException")], [(0, 5, 8, "java/lang/IndexOutOfBoundsException")], [(0, 6, 9, "java/lang/IllegalArgumentException"), (0, 6, 12, "java/lang/IndexOutOfBoundsException")], [(0, 12, 15, "java/lang/IllegalArgumentException"), (0, 12, 19, "java/lang/IndexOutOfBoundsException"), (0, 12, 23, "java/lang/IllegalStateException"), (0, 12, 27, "java/lang/UnsupportedOperationException")], [(0, 10, 13, "java/lang/IllegalArgumentException"), (0, 10, 17, "java/lang/IllegalStateException"), (0, 10, 21, "java/lang/UnsupportedOperationException")], [(0, 7, 10, "java/lang/IllegalArgumentException"), (0, 7, 14, "java/lang/IllegalStateException")], [(0, 10, 13, "java/lang/IllegalArgumentException"), (0, 10, 17, "java/lang/IllegalStateException")], [(0, 19, 22, "java/lang/IllegalArgumentException"), (0, 19, 26, "java/lang/IndexOutOfBoundsException")], [(0, 10, 13, "java/lang/IllegalArgumentException")], [(0, 10, 13, "java/lang/IllegalArgumentException")], [(0, 10, 13, "java/lang/IllegalArgumentException")], [(0, 9, 12, "java/lang/IllegalArgumentException")], [(0, 13, 16, "java/lang/IllegalArgumentException"), (0, 13, 20, "java/lang/IndexOutOfBoundsException")], [(0, 9, 12, "java/lang/IllegalArgumentException")], [(0, 10, 13, "java/lang/IllegalArgumentException"), (0, 10, 17, "java/lang/IndexOutOfBoundsException")], [(0, 9, 12, "java/lang/IllegalArgumentException")], []]
def jMr : List Room := [{ frames := 0, cells := 0, slots := 0, locals := 0 }, { frames := 0, cells := 0, slots := 0, locals := 0 }, { frames := 0, cells := 0, slots := 0, locals := 0 }, { frames := 1, cells := 9, slots := 144, locals := 20 }, { frames := 0, cells := 0, slots := 0, locals := 0 }, { frames := 0, cells := 0, slots := 0, locals := 0 }, { frames := 1, cells := 0, slots := 0, locals := 21 }, { frames := 1, cells := 0, slots := 0, locals := 21 }, { frames := 0, cells := 0, slots := 0, locals := 0 }, { frames := 1, cells := 0, slots := 0, locals := 23 }, { frames := 1, cells := 7, slots := 2180, locals := 23 }, { frames := 0, cells := 0, slots := 0, locals := 0 }, { frames := 0, cells := 0, slots := 0, locals := 0 }, { frames := 0, cells := 0, slots := 0, locals := 0 }, { frames := 0, cells := 0, slots := 0, locals := 0 }, { frames := 1, cells := 5, slots := 76, locals := 20 }, { frames := 1, cells := 0, slots := 0, locals := 23 }, { frames := 6, cells := 0, slots := 0, locals := 146 }, { frames := 5, cells := 0, slots := 0, locals := 122 }, { frames := 4, cells := 0, slots := 0, locals := 97 }, { frames := 0, cells := 0, slots := 0, locals := 0 }, { frames := 0, cells := 0, slots := 0, locals := 0 }, { frames := 3, cells := 0, slots := 0, locals := 74 }, { frames := 2, cells := 0, slots := 0, locals := 47 }, { frames := 1, cells := 0, slots := 0, locals := 22 }, { frames := 2, cells := 24, slots := 2425, locals := 43 }, { frames := 7, cells := 1, slots := 6, locals := 112 }, { frames := 7, cells := 1, slots := 6, locals := 111 }, { frames := 7, cells := 1, slots := 6, locals := 112 }, { frames := 7, cells := 1, slots := 6, locals := 112 }, { frames := 7, cells := 1, slots := 6, locals := 112 }, { frames := 8, cells := 1, slots := 6, locals := 133 }, { frames := 8, cells := 1, slots := 6, locals := 133 }, { frames := 8, cells := 1, slots := 6, locals := 133 }, { frames := 8, cells := 1, slots := 6, locals := 133 }, { frames := 8, cells := 1, slots := 6, locals := 133 }, { frames := 8, cells := 1, slots := 6, locals := 133 }, { frames := 8, cells := 1, slots := 6, locals := 133 }, { frames := 8, cells := 1, slots := 6, locals := 133 }, { frames := 7, cells := 1, slots := 6, locals := 111 }, { frames := 7, cells := 1, slots := 6, locals := 169 }, { frames := 6, cells := 1, slots := 6, locals := 90 }, { frames := 7, cells := 1, slots := 6, locals := 111 }, { frames := 6, cells := 1, slots := 6, locals := 111 }, { frames := 6, cells := 1, slots := 6, locals := 90 }, { frames := 7, cells := 1, slots := 6, locals := 111 }, { frames := 6, cells := 1, slots := 6, locals := 90 }, { frames := 6, cells := 1, slots := 6, locals := 90 }, { frames := 0, cells := 0, slots := 0, locals := 0 }, { frames := 0, cells := 0, slots := 0, locals := 0 }, { frames := 0, cells := 0, slots := 0, locals := 0 }, { frames := 1, cells := 0, slots := 0, locals := 24 }, { frames := 1, cells := 0, slots := 0, locals := 22 }, { frames := 0, cells := 0, slots := 0, locals := 0 }, { frames := 2, cells := 0, slots := 0, locals := 44 }, { frames := 4, cells := 0, slots := 0, locals := 89 }, { frames := 3, cells := 0, slots := 0, locals := 66 }, { frames := 4, cells := 0, slots := 0, locals := 89 }, { frames := 3, cells := 0, slots := 0, locals := 66 }, { frames := 4, cells := 0, slots := 0, locals := 89 }, { frames := 2, cells := 0, slots := 0, locals := 44 }, { frames := 1, cells := 19, slots := 17784, locals := 20 }, { frames := 0, cells := 0, slots := 0, locals := 0 }, { frames := 0, cells := 0, slots := 0, locals := 0 }, { frames := 0, cells := 0, slots := 0, locals := 0 }, { frames := 1, cells := 0, slots := 0, locals := 22 }, { frames := 2, cells := 0, slots := 0, locals := 43 }, { frames := 1, cells := 0, slots := 0, locals := 24 }, { frames := 0, cells := 0, slots := 0, locals := 0 }, { frames := 2, cells := 0, slots := 0, locals := 43 }, { frames := 1, cells := 0, slots := 0, locals := 24 }, { frames := 1, cells := 0, slots := 0, locals := 24 }, { frames := 2, cells := 0, slots := 0, locals := 43 }, { frames := 0, cells := 0, slots := 0, locals := 0 }, { frames := 0, cells := 0, slots := 0, locals := 0 }, { frames := 1, cells := 0, slots := 0, locals := 25 }, { frames := 0, cells := 0, slots := 0, locals := 0 }, { frames := 0, cells := 0, slots := 0, locals := 0 }, { frames := 2, cells := 0, slots := 0, locals := 49 }, { frames := 2, cells := 0, slots := 0, locals := 49 }, { frames := 3, cells := 0, slots := 0, locals := 71 }, { frames := 0, cells := 0, slots := 0, locals := 0 }, { frames := 4, cells := 0, slots := 0, locals := 94 }, { frames := 3, cells := 0, slots := 0, locals := 65 }, { frames := 3, cells := 0, slots := 0, locals := 65 }, { frames := 3, cells := 0, slots := 0, locals := 65 }, { frames := 3, cells := 0, slots := 0, locals := 65 }, { frames := 3, cells := 0, slots := 0, locals := 65 }, { frames := 3, cells := 0, slots := 0, locals := 65 }, { frames := 3, cells := 0, slots := 0, locals := 72 }, { frames := 4, cells := 0, slots := 0, locals := 94 }, { frames := 2, cells := 0, slots := 0, locals := 48 }, { frames := 1, cells := 0, slots := 0, locals := 23 }, { frames := 0, cells := 0, slots := 0, locals := 0 }, { frames := 0, cells := 0, slots := 0, locals := 0 }, { frames := 3, cells := 0, slots := 0, locals := 74 }, { frames := 4, cells := 0, slots := 0, locals := 97 }, { frames := 1, cells := 0, slots := 0, locals := 24 }, { frames := 2, cells := 0, slots := 0, locals := 49 }, { frames := 3, cells := 0, slots := 0, locals := 71 }, { frames := 8, cells := 1, slots := 6, locals := 135 }, { frames := 8, cells := 1, slots := 6, locals := 133 }, { frames := 8, cells := 1, slots := 6, locals := 133 }, { frames := 8, cells := 1, slots := 6, locals := 133 }, { frames := 8, cells := 1, slots := 6, locals := 134 }, { frames := 9, cells := 1, slots := 6, locals := 156 }, { frames := 9, cells := 1, slots := 6, locals := 155 }, { frames := 9, cells := 1, slots := 6, locals := 156 }, { frames := 9, cells := 1, slots := 6, locals := 155 }, { frames := 9, cells := 1, slots := 6, locals := 156 }, { frames := 9, cells := 1, slots := 6, locals := 155 }, { frames := 9, cells := 1, slots := 6, locals := 155 }, { frames := 9, cells := 1, slots := 6, locals := 155 }, { frames := 8, cells := 1, slots := 6, locals := 132 }, { frames := 8, cells := 1, slots := 6, locals := 195 }, { frames := 7, cells := 1, slots := 6, locals := 111 }, { frames := 8, cells := 1, slots := 6, locals := 135 }, { frames := 7, cells := 1, slots := 6, locals := 132 }, { frames := 12, cells := 1086, slots := 28528, locals := 442 }]
def jRr : List (Nat × Nat) := [(0, 0), (0, 0), (0, 0), (9, 144), (0, 0), (0, 0), (0, 0), (0, 0), (0, 0), (0, 0), (7, 2180), (0, 0), (0, 0), (0, 0), (0, 0), (5, 76), (0, 0), (0, 0), (0, 0), (0, 0), (0, 0), (0, 0), (0, 0), (0, 0), (0, 0), (24, 2425), (0, 0), (0, 0), (0, 0), (0, 0), (0, 0), (0, 0), (0, 0), (0, 0), (0, 0), (0, 0), (0, 0), (0, 0), (0, 0), (0, 0), (0, 0), (0, 0), (0, 0), (0, 0), (0, 0), (0, 0), (0, 0), (0, 0), (0, 0), (0, 0), (0, 0), (0, 0), (0, 0), (0, 0), (0, 0), (0, 0), (0, 0), (0, 0), (0, 0), (0, 0), (0, 0), (19, 17784), (0, 0), (0, 0), (0, 0), (0, 0), (0, 0), (0, 0), (0, 0), (0, 0), (0, 0), (0, 0), (0, 0), (0, 0), (0, 0), (0, 0), (0, 0), (0, 0), (0, 0), (0, 0), (0, 0), (0, 0), (0, 0), (0, 0), (0, 0), (0, 0), (0, 0), (0, 0), (0, 0), (0, 0), (0, 0), (0, 0), (0, 0), (0, 0), (0, 0), (0, 0), (0, 0), (0, 0), (0, 0), (0, 0), (1, 6), (1, 6), (1, 6), (1, 6), (1, 6), (1, 6), (1, 6), (1, 6), (1, 6), (1, 6), (1, 6), (1, 6), (1, 6), (1, 6), (1, 6), (1, 6), (1, 6), (1, 6), (1086, 28528)]
/-! the code -/
def jK0 : List (Nat × Instr × Nat) := [(0, .iconst 0, 1), (1, .istore_n 2, 1), (2, .aload_n 0, 1), (3, .arraylength, 1), (4, .istore_n 3, 1), (5, .iload_n 2, 1), (6, .iload_n 3, 1), (7, .if_icmp .ge 13, 3), (10, .aload_n 0, 1), (11, .iload_n 2, 1), (12, .iload_n 1, 1), (13, .iastore, 1), (14, .iinc 2 1, 3), (17, .goto (-12), 3), (20, .return_, 1)]
def jK1 : List (Nat × Instr × Nat) := [(0, .iload_n 0, 1), (1, .iload_n 1, 1), (2, .if_icmp .lt 7, 3), (5, .iload_n 0, 1), (6, .goto 4, 3), (9, .iload_n 1, 1), (10, .ireturn, 1)]
def jK2 : List (Nat × Instr × Nat) := [(0, .iload_n 0, 1), (1, .iload_n 1, 1), (2, .if_icmp .gt 7, 3), (5, .iload_n 0, 1), (6, .goto 4, 3), (9, .iload_n 1, 1), (10, .ireturn, 1)]
def jK3 : List (Nat × Instr × Nat) := [(0, .aload_n 0, 1), (1, .invokespecial 3, 3), (4, .aload_n 0, 1), (5, .bipush 16, 2), (7, .newarray .int, 2), (9, .putfield 9, 3), (12, .aload_n 0, 1), (13, .bipush 16, 2), (15, .newarray .int, 2), (17, .putfield 15, 3), (20, .aload_n 0, 1), (21, .bipush 16, 2), (23, .newarray .int, 2), (25, .putfield 18, 3), (28, .aload_n 0, 1), (29, .bipush 16, 2), (31, .newarray .int, 2), (33, .putfield 21, 3), (36, .aload_n 0, 1), (37, .bipush 16, 2), (39, .newarray .int, 2), (41, .putfield 24, 3), (44, .aload_n 0, 1), (45, .bipush 16, 2), (47, .newarray .int, 2), (49, .putfield 27, 3), (52, .aload_n 0, 1), (53, .bipush 16, 2), (55, .newarray .int, 2), (57, .putfield 30, 3), (60, .aload_n 0, 1), (61, .bipush 16, 2), (63, .newarray .int, 2), (65, .putfield 33, 3), (68, .aload_n 0, 1), (69, .bipush 16, 2), (71, .newarray .boolean, 2), (73, .putfield 36, 3), (76, .return_, 1)]
def jK4 : List (Nat × Instr × Nat) := [(0, .aload_n 0, 1), (1, .getfield 40, 3), (4, .bipush 16, 2), (6, .if_icmp .lt 7, 3), (9, .iconst 1, 1), (10, .goto 4, 3), (13, .iconst 0, 1), (14, .ireturn, 1)]
def jK5 : List (Nat × Instr × Nat) := [(0, .aload_n 0, 1), (1, .getfield 40, 3), (4, .istore 4, 2), (6, .aload_n 0, 1), (7, .getfield 9, 3), (10, .iload 4, 2), (12, .iload_n 1, 1), (13, .iastore, 1), (14, .aload_n 0, 1), (15, .getfield 15, 3), (18, .iload 4, 2), (20, .iload_n 2, 1), (21, .iastore, 1), (22, .aload_n 0, 1), (23, .getfield 18, 3), (26, .iload 4, 2), (28, .iload_n 3, 1), (29, .iastore, 1), (30, .aload_n 0, 1), (31, .getfield 21, 3), (34, .iload 4, 2), (36, .iconst 3, 1), (37, .iastore, 1), (38, .aload_n 0, 1), (39, .dup, 1), (40, .getfield 40, 3), (43, .iconst 1, 1), (44, .iadd, 1), (45, .putfield 40, 3), (48, .iload 4, 2), (50, .ireturn, 1)]
def jK6 : List (Nat × Instr × Nat) := [(0, .iload_n 1, 1), (1, .iload_n 2, 1), (2, .if_icmp .eq 16, 3), (5, .aload_n 0, 1), (6, .getfield 27, 3), (9, .iload_n 2, 1), (10, .iaload, 1), (11, .iload_n 1, 1), (12, .invokestatic 44, 3), (15, .ifCond .eq 7, 3), (18, .iconst 1, 1), (19, .goto 4, 3), (22, .iconst 0, 1), (23, .ireturn, 1)]
def jK7 : List (Nat × Instr × Nat) := [(0, .aload_n 0, 1), (1, .getfield 27, 3), (4, .iload_n 2, 1), (5, .iaload, 1), (6, .iconst 1, 1), (7, .iload_n 2, 1), (8, .ishl, 1), (9, .ior, 1), (10, .istore_n 3, 1), (11, .aload_n 0, 1), (12, .getfield 24, 3), (15, .iload_n 1, 1), (16, .dup2, 1), (17, .iaload, 1), (18, .iconst 1, 1), (19, .iload_n 2, 1), (20, .ishl, 1), (21, .ior, 1), (22, .iastore, 1), (23, .iconst 0, 1), (24, .istore 4, 2), (26, .iload 4, 2), (28, .aload_n 0, 1), (29, .getfield 40, 3), (32, .if_icmp .ge 40, 3), (35, .iload 4, 2), (37, .iload_n 1, 1), (38, .if_icmp .eq 17, 3), (41, .aload_n 0, 1), (42, .getfield 27, 3), (45, .iload 4, 2), (47, .iaload, 1), (48, .iload_n 1, 1), (49, .invokestatic 44, 3), (52, .ifCond .eq 14, 3), (55, .aload_n 0, 1), (56, .getfield 27, 3), (59, .iload 4, 2), (61, .dup2, 1), (62, .iaload, 1), (63, .iload_n 3, 1), (64, .ior, 1), (65, .iastore, 1), (66, .iinc 4 1, 3), (69, .goto (-43), 3), (72, .return_, 1)]
def jK8 : List (Nat × Instr × Nat) := [(0, .aload_n 0, 1), (1, .getfield 36, 3), (4, .iload_n 1, 1), (5, .iconst 1, 1), (6, .bastore, 1), (7, .aload_n 0, 1), (8, .getfield 33, 3), (11, .iload_n 1, 1), (12, .dup2, 1), (13, .iaload, 1), (14, .iconst 1, 1), (15, .iadd, 1), (16, .iastore, 1), (17, .return_, 1)]
def jK9 : List (Nat × Instr × Nat) := [(0, .aload_n 0, 1), (1, .getfield 33, 3), (4, .iconst 0, 1), (5, .invokestatic 48, 3), (8, .return_, 1)]
def jK10 : List (Nat × Instr × Nat) := [(0, .aload_n 0, 1), (1, .invokespecial 3, 3), (4, .aload_n 0, 1), (5, .sipush 300, 3), (8, .newarray .int, 2), (10, .putfield 9, 3), (13, .aload_n 0, 1), (14, .sipush 300, 3), (17, .newarray .int, 2), (19, .putfield 15, 3), (22, .aload_n 0, 1), (23, .sipush 300, 3), (26, .newarray .int, 2), (28, .putfield 18, 3), (31, .aload_n 0, 1), (32, .sipush 320, 3), (35, .newarray .int, 2), (37, .putfield 21, 3), (40, .aload_n 0, 1), (41, .sipush 320, 3), (44, .newarray .int, 2), (46, .putfield 24, 3), (49, .aload_n 0, 1), (50, .sipush 320, 3), (53, .newarray .int, 2), (55, .putfield 27, 3), (58, .aload_n 0, 1), (59, .sipush 320, 3), (62, .newarray .int, 2), (64, .putfield 30, 3), (67, .aload_n 0, 1), (68, .getfield 21, 3), (71, .iconst (-1), 1), (72, .invokestatic 33, 3), (75, .aload_n 0, 1), (76, .getfield 30, 3), (79, .iconst (-1), 1), (80, .invokestatic 33, 3), (83, .return_, 1)]
def jK11 : List (Nat × Instr × Nat) := [(0, .aload_n 0, 1), (1, .getfield 39, 3), (4, .sipush 300, 3), (7, .if_icmp .lt 7, 3), (10, .iconst 1, 1), (11, .goto 4, 3), (14, .iconst 0, 1), (15, .ireturn, 1)]
def jK12 : List (Nat × Instr × Nat) := [(0, .aload_n 0, 1), (1, .getfield 39, 3), (4, .istore 4, 2), (6, .aload_n 0, 1), (7, .dup, 1), (8, .getfield 39, 3), (11, .iconst 1, 1), (12, .iadd, 1), (13, .putfield 39, 3), (16, .aload_n 0, 1), (17, .getfield 9, 3), (20, .iload 4, 2), (22, .iload_n 2, 1), (23, .iastore, 1), (24, .aload_n 0, 1), (25, .getfield 15, 3), (28, .iload 4, 2), (30, .aload_n 0, 1), (31, .getfield 21, 3), (34, .iload_n 1, 1), (35, .iaload, 1), (36, .iastore, 1), (37, .aload_n 0, 1), (38, .getfield 24, 3), (41, .iload_n 1, 1), (42, .iload_n 2, 1), (43, .iastore, 1), (44, .iload_n 3, 1), (45, .ifCond .eq 31, 3), (48, .aload_n 0, 1), (49, .dup, 1), (50, .getfield 43, 3), (53, .iconst 1, 1), (54, .iadd, 1), (55, .putfield 43, 3), (58, .aload_n 0, 1), (59, .getfield 21, 3), (62, .iload_n 1, 1), (63, .iload 4, 2), (65, .iastore, 1), (66, .aload_n 0, 1), (67, .getfield 27, 3), (70, .iload_n 1, 1), (71, .iconst 0, 1), (72, .iastore, 1), (73, .goto 13, 3), (76, .aload_n 0, 1), (77, .getfield 27, 3), (80, .iload_n 1, 1), (81, .dup2, 1), (82, .iaload, 1), (83, .iconst 1, 1), (84, .iadd, 1), (85, .iastore, 1), (86, .iload 4, 2), (88, .ireturn, 1)]
def jK13 : List (Nat × Instr × Nat) := [(0, .aload_n 0, 1), (1, .getfield 21, 3), (4, .iload_n 1, 1), (5, .iaload, 1), (6, .istore 4, 2), (8, .iload 4, 2), (10, .iconst (-1), 1), (11, .if_icmp .ne 5, 3), (14, .iconst 0, 1), (15, .ireturn, 1), (16, .aload_n 0, 1), (17, .getfield 30, 3), (20, .iload_n 1, 1), (21, .iaload, 1), (22, .iload_n 2, 1), (23, .if_icmp .eq 25, 3), (26, .aload_n 0, 1), (27, .getfield 18, 3), (30, .iload 4, 2), (32, .iaload, 1), (33, .iload_n 3, 1), (34, .if_icmp .ge 14, 3), (37, .aload_n 0, 1), (38, .getfield 18, 3), (41, .iload 4, 2), (43, .dup2, 1), (44, .iaload, 1), (45, .iconst 1, 1), (46, .iadd, 1), (47, .iastore, 1), (48, .aload_n 0, 1), (49, .getfield 30, 3), (52, .iload_n 1, 1), (53, .iload_n 2, 1), (54, .iastore, 1), (55, .aload_n 0, 1), (56, .getfield 18, 3), (59, .iload 4, 2), (61, .iaload, 1), (62, .ireturn, 1)]
def jK14 : List (Nat × Instr × Nat) := [(0, .aload_n 0, 1), (1, .getfield 21, 3), (4, .iload_n 1, 1), (5, .iaload, 1), (6, .istore_n 3, 1), (7, .iconst 0, 1), (8, .istore 4, 2), (10, .iload 4, 2), (12, .aload_n 0, 1), (13, .getfield 39, 3), (16, .if_icmp .ge 33, 3), (19, .iload_n 3, 1), (20, .iconst (-1), 1), (21, .if_icmp .eq 28, 3), (24, .aload_n 0, 1), (25, .getfield 9, 3), (28, .iload_n 3, 1), (29, .iaload, 1), (30, .iload_n 2, 1), (31, .if_icmp .gt 5, 3), (34, .iload_n 3, 1), (35, .ireturn, 1), (36, .aload_n 0, 1), (37, .getfield 15, 3), (40, .iload_n 3, 1), (41, .iaload, 1), (42, .istore_n 3, 1), (43, .iinc 4 1, 3), (46, .goto (-36), 3), (49, .iconst (-1), 1), (50, .ireturn, 1)]
def jK15 : List (Nat × Instr × Nat) := [(0, .aload_n 0, 1), (1, .invokespecial 3, 3), (4, .aload_n 0, 1), (5, .bipush 12, 2), (7, .newarray .int, 2), (9, .putfield 9, 3), (12, .aload_n 0, 1), (13, .bipush 12, 2), (15, .newarray .int, 2), (17, .putfield 15, 3), (20, .aload_n 0, 1), (21, .bipush 20, 2), (23, .newarray .int, 2), (25, .putfield 18, 3), (28, .aload_n 0, 1), (29, .bipush 12, 2), (31, .newarray .int, 2), (33, .putfield 21, 3), (36, .aload_n 0, 1), (37, .bipush 20, 2), (39, .newarray .int, 2), (41, .putfield 24, 3), (44, .return_, 1)]
def jK16 : List (Nat × Instr × Nat) := [(0, .aload_n 0, 1), (1, .iload_n 1, 1), (2, .putfield 27, 3), (5, .aload_n 0, 1), (6, .getfield 15, 3), (9, .iconst (-1), 1), (10, .invokestatic 31, 3), (13, .aload_n 0, 1), (14, .getfield 18, 3), (17, .iconst (-1), 1), (18, .invokestatic 31, 3), (21, .return_, 1)]
def jK17 : List (Nat × Instr × Nat) := [(0, .iconst 0, 1), (1, .istore_n 1, 1), (2, .iconst 0, 1), (3, .istore_n 2, 1), (4, .iload_n 2, 1), (5, .aload_n 0, 1), (6, .getfield 27, 3), (9, .if_icmp .ge 21, 3), (12, .aload_n 0, 1), (13, .iload_n 2, 1), (14, .iconst 0, 1), (15, .invokevirtual 37, 3), (18, .ifCond .eq 6, 3), (21, .iinc 1 1, 3), (24, .iinc 2 1, 3), (27, .goto (-23), 3), (30, .iconst 0, 1), (31, .istore_n 2, 1), (32, .iconst 0, 1), (33, .istore_n 3, 1), (34, .iload_n 3, 1), (35, .aload_n 0, 1), (36, .getfield 27, 3), (39, .if_icmp .ge 18, 3), (42, .iload_n 2, 1), (43, .aload_n 0, 1), (44, .iload_n 3, 1), (45, .iload_n 2, 1), (46, .invokevirtual 41, 3), (49, .ior, 1), (50, .istore_n 2, 1), (51, .iinc 3 1, 3), (54, .goto (-20), 3), (57, .iload_n 1, 1), (58, .ireturn, 1)]
def jK18 : List (Nat × Instr × Nat) := [(0, .aload_n 0, 1), (1, .getfield 9, 3), (4, .iload_n 1, 1), (5, .iaload, 1), (6, .iload_n 2, 1), (7, .iconst (-1), 1), (8, .ixor, 1), (9, .iand, 1), (10, .istore_n 3, 1), (11, .iconst 0, 1), (12, .istore 4, 2), (14, .iload 4, 2), (16, .bipush 20, 2), (18, .if_icmp .ge 34, 3), (21, .iload_n 3, 1), (22, .iload 4, 2), (24, .invokestatic 45, 3), (27, .ifCond .eq 19, 3), (30, .aload_n 0, 1), (31, .iload_n 1, 1), (32, .iload 4, 2), (34, .iload_n 2, 1), (35, .invokevirtual 48, 3), (38, .ifCond .eq 8, 3), (41, .iconst 1, 1), (42, .iload 4, 2), (44, .ishl, 1), (45, .ireturn, 1), (46, .iinc 4 1, 3), (49, .goto (-35), 3), (52, .iconst 0, 1), (53, .ireturn, 1)]
def jK19 : List (Nat × Instr × Nat) := [(0, .aload_n 0, 1), (1, .getfield 15, 3), (4, .iload_n 1, 1), (5, .iaload, 1), (6, .istore 4, 2), (8, .aload_n 0, 1), (9, .getfield 18, 3), (12, .iload_n 2, 1), (13, .iaload, 1), (14, .istore 5, 2), (16, .iload 4, 2), (18, .iload_n 2, 1), (19, .if_icmp .ne 5, 3), (22, .iconst 1, 1), (23, .ireturn, 1), (24, .aload_n 0, 1), (25, .iload_n 1, 1), (26, .iload 4, 2), (28, .invokevirtual 52, 3), (31, .aload_n 0, 1), (32, .iload 5, 2), (34, .iload_n 2, 1), (35, .invokevirtual 52, 3), (38, .aload_n 0, 1), (39, .iload_n 1, 1), (40, .iload_n 2, 1), (41, .invokevirtual 56, 3), (44, .iload 4, 2), (46, .iconst (-1), 1), (47, .if_icmp .eq 9, 3), (50, .iload 5, 2), (52, .iconst (-1), 1), (53, .if_icmp .ne 5, 3), (56, .iconst 1, 1), (57, .ireturn, 1), (58, .aload_n 0, 1), (59, .iload_n 1, 1), (60, .iload_n 3, 1), (61, .iconst 1, 1), (62, .iload_n 2, 1), (63, .ishl, 1), (64, .ior, 1), (65, .invokevirtual 59, 3), (68, .ifCond .eq 5, 3), (71, .iconst 1, 1), (72, .ireturn, 1), (73, .aload_n 0, 1), (74, .iload_n 1, 1), (75, .iload 4, 2), (77, .invokevirtual 56, 3), (80, .aload_n 0, 1), (81, .iload 5, 2), (83, .iload_n 2, 1), (84, .invokevirtual 56, 3), (87, .iconst 0, 1), (88, .ireturn, 1)]
def jK20 : List (Nat × Instr × Nat) := [(0, .aload_n 0, 1), (1, .getfield 15, 3), (4, .iload_n 1, 1), (5, .iload_n 2, 1), (6, .iastore, 1), (7, .aload_n 0, 1), (8, .getfield 18, 3), (11, .iload_n 2, 1), (12, .iload_n 1, 1), (13, .iastore, 1), (14, .return_, 1)]
def jK21 : List (Nat × Instr × Nat) := [(0, .iload_n 1, 1), (1, .iconst (-1), 1), (2, .if_icmp .eq 22, 3), (5, .iload_n 2, 1), (6, .iconst (-1), 1), (7, .if_icmp .eq 17, 3), (10, .aload_n 0, 1), (11, .getfield 15, 3), (14, .iload_n 1, 1), (15, .iconst (-1), 1), (16, .iastore, 1), (17, .aload_n 0, 1), (18, .getfield 18, 3), (21, .iload_n 2, 1), (22, .iconst (-1), 1), (23, .iastore, 1), (24, .return_, 1)]
def jK22 : List (Nat × Instr × Nat) := [(0, .iload_n 1, 1), (1, .iconst 1, 1), (2, .iadd, 1), (3, .istore_n 3, 1), (4, .iload_n 3, 1), (5, .aload_n 0, 1), (6, .getfield 27, 3), (9, .if_icmp .ge 30, 3), (12, .aload_n 0, 1), (13, .getfield 15, 3), (16, .iload_n 3, 1), (17, .iaload, 1), (18, .iconst (-1), 1), (19, .if_icmp .ne 14, 3), (22, .aload_n 0, 1), (23, .iload_n 3, 1), (24, .iload_n 2, 1), (25, .invokevirtual 37, 3), (28, .ifCond .eq 5, 3), (31, .iconst 1, 1), (32, .ireturn, 1), (33, .iinc 3 1, 3), (36, .goto (-32), 3), (39, .iconst 0, 1), (40, .ireturn, 1)]
def jK23 : List (Nat × Instr × Nat) := [(0, .iload_n 2, 1), (1, .istore_n 3, 1), (2, .iconst 1, 1), (3, .istore 4, 2), (5, .aload_n 0, 1), (6, .getfield 21, 3), (9, .iconst 0, 1), (10, .iload_n 1, 1), (11, .iastore, 1), (12, .iconst 0, 1), (13, .istore 5, 2), (15, .iload 5, 2), (17, .iload 4, 2), (19, .if_icmp .ge 122, 3), (22, .iload 5, 2), (24, .bipush 12, 2), (26, .if_icmp .ge 115, 3), (29, .aload_n 0, 1), (30, .getfield 21, 3), (33, .iload 5, 2), (35, .iaload, 1), (36, .istore 6, 2), (38, .iconst 0, 1), (39, .istore 7, 2), (41, .iload 7, 2), (43, .bipush 20, 2), (45, .if_icmp .ge 90, 3), (48, .aload_n 0, 1), (49, .getfield 9, 3), (52, .iload 6, 2), (54, .iaload, 1), (55, .iload_n 3, 1), (56, .iconst (-1), 1), (57, .ixor, 1), (58, .iand, 1), (59, .iload 7, 2), (61, .invokestatic 45, 3), (64, .ifCond .ne 6, 3), (67, .goto 62, 3), (70, .iload_n 3, 1), (71, .iconst 1, 1), (72, .iload 7, 2), (74, .ishl, 1), (75, .ior, 1), (76, .istore_n 3, 1), (77, .aload_n 0, 1), (78, .getfield 24, 3), (81, .iload 7, 2), (83, .iload 6, 2), (85, .iastore, 1), (86, .aload_n 0, 1), (87, .getfield 18, 3), (90, .iload 7, 2), (92, .iaload, 1), (93, .iconst (-1), 1), (94, .if_icmp .ne 11, 3), (97, .aload_n 0, 1), (98, .iload 7, 2), (100, .invokevirtual 62, 3), (103, .iconst 1, 1), (104, .ireturn, 1), (105, .iload 4, 2), (107, .bipush 12, 2), (109, .if_icmp .ge 20, 3), (112, .aload_n 0, 1), (113, .getfield 21, 3), (116, .iload 4, 2), (118, .aload_n 0, 1), (119, .getfield 18, 3), (122, .iload 7, 2), (124, .iaload, 1), (125, .iastore, 1), (126, .iinc 4 1, 3), (129, .iinc 7 1, 3), (132, .goto (-91), 3), (135, .iinc 5 1, 3), (138, .goto (-123), 3), (141, .iconst 0, 1), (142, .ireturn, 1)]
def jK24 : List (Nat × Instr × Nat) := [(0, .iload_n 1, 1), (1, .istore_n 2, 1), (2, .iconst 0, 1), (3, .istore_n 3, 1), (4, .iload_n 3, 1), (5, .bipush 12, 2), (7, .if_icmp .ge 41, 3), (10, .iload_n 2, 1), (11, .iconst (-1), 1), (12, .if_icmp .eq 36, 3), (15, .aload_n 0, 1), (16, .getfield 24, 3), (19, .iload_n 2, 1), (20, .iaload, 1), (21, .istore 4, 2), (23, .aload_n 0, 1), (24, .getfield 15, 3), (27, .iload 4, 2), (29, .iaload, 1), (30, .istore 5, 2), (32, .aload_n 0, 1), (33, .iload 4, 2), (35, .iload_n 2, 1), (36, .invokevirtual 56, 3), (39, .iload 5, 2), (41, .istore_n 2, 1), (42, .iinc 3 1, 3), (45, .goto (-41), 3), (48, .return_, 1)]
def jK25 : List (Nat × Instr × Nat) := [(0, .aload_n 0, 1), (1, .invokespecial 3, 3), (4, .aload_n 0, 1), (5, .new 9, 3), (8, .dup, 1), (9, .invokespecial 11, 3), (12, .putfield 12, 3), (15, .aload_n 0, 1), (16, .new 16, 3), (19, .dup, 1), (20, .invokespecial 18, 3), (23, .putfield 19, 3), (26, .aload_n 0, 1), (27, .new 23, 3), (30, .dup, 1), (31, .invokespecial 25, 3), (34, .putfield 26, 3), (37, .aload_n 0, 1), (38, .iconst 0, 1), (39, .putfield 30, 3), (42, .aload_n 0, 1), (43, .bipush 30, 2), (45, .putfield 34, 3), (48, .return_, 1)]
def jK26 : List (Nat × Instr × Nat) := [(0, .iload_n 1, 1), (1, .iconst 1, 1), (2, .sipush 2000, 3), (5, .invokestatic 37, 3), (8, .iload_n 2, 1), (9, .iconst 0, 1), (10, .bipush 100, 2), (12, .invokestatic 37, 3), (15, .iload_n 3, 1), (16, .iconst 0, 1), (17, .bipush 50, 2), (19, .invokestatic 37, 3), (22, .aload_n 0, 1), (23, .getfield 12, 3), (26, .invokevirtual 41, 3), (29, .ifCond .eq 13, 3), (32, .new 45, 3), (35, .dup, 1), (36, .ldc 47, 2), (38, .invokespecial 49, 3), (41, .athrow, 1), (42, .aload_n 0, 1), (43, .getfield 12, 3), (46, .iload_n 1, 1), (47, .iload_n 2, 1), (48, .iload_n 3, 1), (49, .invokevirtual 52, 3), (52, .ireturn, 1)]
def jK27 : List (Nat × Instr × Nat) := [(0, .aload_n 0, 1), (1, .iload_n 1, 1), (2, .invokevirtual 56, 3), (5, .aload_n 0, 1), (6, .iload_n 2, 1), (7, .invokevirtual 56, 3), (10, .aload_n 0, 1), (11, .getfield 12, 3), (14, .iload_n 1, 1), (15, .iload_n 2, 1), (16, .invokevirtual 60, 3), (19, .ifCond .eq 13, 3), (22, .new 64, 3), (25, .dup, 1), (26, .ldc 66, 2), (28, .invokespecial 68, 3), (31, .athrow, 1), (32, .aload_n 0, 1), (33, .getfield 12, 3), (36, .getfield 69, 3), (39, .iload_n 1, 1), (40, .iaload, 1), (41, .iload_n 2, 1), (42, .invokestatic 73, 3), (45, .ifCond .eq 13, 3), (48, .new 64, 3), (51, .dup, 1), (52, .ldc 76, 2), (54, .invokespecial 68, 3), (57, .athrow, 1), (58, .aload_n 0, 1), (59, .getfield 12, 3), (62, .iload_n 1, 1), (63, .iload_n 2, 1), (64, .invokevirtual 78, 3), (67, .return_, 1)]
def jK28 : List (Nat × Instr × Nat) := [(0, .iload_n 1, 1), (1, .iconst 0, 1), (2, .sipush 1000, 3), (5, .invokestatic 37, 3), (8, .aload_n 0, 1), (9, .iload_n 1, 1), (10, .putfield 34, 3), (13, .return_, 1)]
def jK29 : List (Nat × Instr × Nat) := [(0, .iload_n 1, 1), (1, .aload_n 0, 1), (2, .getfield 30, 3), (5, .sipush 9999, 3), (8, .invokestatic 37, 3), (11, .iload_n 1, 1), (12, .aload_n 0, 1), (13, .getfield 30, 3), (16, .if_icmp .eq 10, 3), (19, .aload_n 0, 1), (20, .getfield 12, 3), (23, .invokevirtual 82, 3), (26, .aload_n 0, 1), (27, .iload_n 1, 1), (28, .putfield 30, 3), (31, .return_, 1)]
def jK30 : List (Nat × Instr × Nat) := [(0, .aload_n 0, 1), (1, .iload_n 1, 1), (2, .invokevirtual 56, 3), (5, .iload_n 2, 1), (6, .iconst 0, 1), (7, .bipush 10, 2), (9, .invokestatic 37, 3), (12, .aload_n 0, 1), (13, .getfield 12, 3), (16, .getfield 85, 3), (19, .iload_n 1, 1), (20, .iload_n 2, 1), (21, .iastore, 1), (22, .return_, 1)]
def jK31 : List (Nat × Instr × Nat) := [(0, .aload_n 0, 1), (1, .iload_n 1, 1), (2, .iload_n 2, 1), (3, .invokevirtual 88, 3), (6, .iload_n 3, 1), (7, .iconst 0, 1), (8, .bipush 100, 2), (10, .invokestatic 37, 3), (13, .aload_n 0, 1), (14, .iload_n 1, 1), (15, .iload_n 2, 1), (16, .invokevirtual 91, 3), (19, .ifCond .eq 13, 3), (22, .new 64, 3), (25, .dup, 1), (26, .ldc 95, 2), (28, .invokespecial 68, 3), (31, .athrow, 1), (32, .aload_n 0, 1), (33, .iload_n 2, 1), (34, .invokevirtual 97, 3), (37, .ifCond .ne 13, 3), (40, .new 45, 3), (43, .dup, 1), (44, .ldc 101, 2), (46, .invokespecial 49, 3), (49, .athrow, 1), (50, .aload_n 0, 1), (51, .invokevirtual 103, 3), (54, .aload_n 0, 1), (55, .iload_n 1, 1), (56, .iload_n 2, 1), (57, .iload_n 3, 1), (58, .aload_n 0, 1), (59, .getfield 12, 3), (62, .getfield 106, 3), (65, .iload_n 2, 1), (66, .iaload, 1), (67, .if_icmp .lt 7, 3), (70, .iconst 1, 1), (71, .goto 4, 3), (74, .iconst 0, 1), (75, .invokevirtual 109, 3), (78, .ireturn, 1)]
def jK32 : List (Nat × Instr × Nat) := [(0, .aload_n 0, 1), (1, .iload_n 1, 1), (2, .iload_n 2, 1), (3, .invokevirtual 88, 3), (6, .aload_n 0, 1), (7, .getfield 12, 3), (10, .getfield 113, 3), (13, .iload_n 2, 1), (14, .baload, 1), (15, .ifCond .eq 13, 3), (18, .new 64, 3), (21, .dup, 1), (22, .ldc 117, 2), (24, .invokespecial 68, 3), (27, .athrow, 1), (28, .aload_n 0, 1), (29, .invokevirtual 103, 3), (32, .aload_n 0, 1), (33, .iload_n 1, 1), (34, .iload_n 2, 1), (35, .iconst 1, 1), (36, .invokevirtual 109, 3), (39, .ireturn, 1)]
def jK33 : List (Nat × Instr × Nat) := [(0, .aload_n 0, 1), (1, .iload_n 1, 1), (2, .iload_n 2, 1), (3, .invokevirtual 88, 3), (6, .aload_n 0, 1), (7, .getfield 12, 3), (10, .getfield 119, 3), (13, .iload_n 2, 1), (14, .iaload, 1), (15, .iload_n 1, 1), (16, .invokestatic 73, 3), (19, .iload_n 3, 1), (20, .if_icmp .ne 13, 3), (23, .new 64, 3), (26, .dup, 1), (27, .ldc 122, 2), (29, .invokespecial 68, 3), (32, .athrow, 1), (33, .iload_n 3, 1), (34, .ifCond .eq 22, 3), (37, .aload_n 0, 1), (38, .iload_n 1, 1), (39, .iload_n 2, 1), (40, .invokevirtual 124, 3), (43, .ifCond .ne 13, 3), (46, .new 64, 3), (49, .dup, 1), (50, .ldc 127, 2), (52, .invokespecial 68, 3), (55, .athrow, 1), (56, .aload_n 0, 1), (57, .getfield 12, 3), (60, .getfield 119, 3), (63, .iload_n 2, 1), (64, .dup2, 1), (65, .iaload, 1), (66, .iconst 1, 1), (67, .iload_n 1, 1), (68, .ishl, 1), (69, .ixor, 1), (70, .iastore, 1), (71, .return_, 1)]
def jK34 : List (Nat × Instr × Nat) := [(0, .aload_n 0, 1), (1, .iload_n 1, 1), (2, .iload_n 2, 1), (3, .invokevirtual 88, 3), (6, .aload_n 0, 1), (7, .iload_n 1, 1), (8, .iload_n 2, 1), (9, .invokevirtual 124, 3), (12, .ifCond .ne 13, 3), (15, .new 64, 3), (18, .dup, 1), (19, .ldc 127, 2), (21, .invokespecial 68, 3), (24, .athrow, 1), (25, .aload_n 0, 1), (26, .getfield 19, 3), (29, .iload_n 1, 1), (30, .iload_n 2, 1), (31, .invokestatic 129, 3), (34, .aload_n 0, 1), (35, .getfield 30, 3), (38, .aload_n 0, 1), (39, .getfield 12, 3), (42, .getfield 132, 3), (45, .iload_n 2, 1), (46, .iaload, 1), (47, .invokevirtual 135, 3), (50, .ireturn, 1)]
def jK35 : List (Nat × Instr × Nat) := [(0, .aload_n 0, 1), (1, .iload_n 1, 1), (2, .iload_n 2, 1), (3, .invokevirtual 88, 3), (6, .iload_n 3, 1), (7, .iconst 0, 1), (8, .sipush 9999, 3), (11, .invokestatic 37, 3), (14, .iload_n 3, 1), (15, .aload_n 0, 1), (16, .aload_n 0, 1), (17, .getfield 19, 3), (20, .iload_n 1, 1), (21, .iload_n 2, 1), (22, .invokestatic 129, 3), (25, .iload_n 3, 1), (26, .invokevirtual 138, 3), (29, .iload_n 2, 1), (30, .invokevirtual 141, 3), (33, .if_icmp .ge 7, 3), (36, .iconst 1, 1), (37, .goto 4, 3), (40, .iconst 0, 1), (41, .ireturn, 1)]
def jK36 : List (Nat × Instr × Nat) := [(0, .aload_n 0, 1), (1, .iload_n 1, 1), (2, .iload_n 2, 1), (3, .invokevirtual 88, 3), (6, .aload_n 0, 1), (7, .iload_n 1, 1), (8, .iload_n 2, 1), (9, .invokevirtual 144, 3), (12, .ireturn, 1)]
def jK37 : List (Nat × Instr × Nat) := [(0, .aload_n 0, 1), (1, .iload_n 1, 1), (2, .iload_n 2, 1), (3, .invokevirtual 88, 3), (6, .aload_n 0, 1), (7, .getfield 19, 3), (10, .getfield 147, 3), (13, .iload_n 1, 1), (14, .iload_n 2, 1), (15, .invokestatic 129, 3), (18, .iaload, 1), (19, .ireturn, 1)]
def jK38 : List (Nat × Instr × Nat) := [(0, .aload_n 0, 1), (1, .iload_n 1, 1), (2, .iload_n 2, 1), (3, .invokevirtual 88, 3), (6, .aload_n 0, 1), (7, .iload_n 1, 1), (8, .iload_n 2, 1), (9, .invokevirtual 91, 3), (12, .ireturn, 1)]
def jK39 : List (Nat × Instr × Nat) := [(0, .aload_n 0, 1), (1, .iload_n 1, 1), (2, .invokevirtual 56, 3), (5, .aload_n 0, 1), (6, .iload_n 1, 1), (7, .invokevirtual 97, 3), (10, .ireturn, 1)]
def jK40 : List (Nat × Instr × Nat) := [(0, .iload_n 3, 1), (1, .bipush 12, 2), (3, .invokestatic 150, 3), (6, .istore 5, 2), (8, .iconst 0, 1), (9, .istore 6, 2), (11, .iload 6, 2), (13, .iload 5, 2), (15, .if_icmp .ge 19, 3), (18, .aload_n 0, 1), (19, .lload_n 1, 1), (20, .iload 6, 2), (22, .invokestatic 155, 3), (25, .invokevirtual 56, 3), (28, .iinc 6 1, 3), (31, .goto (-20), 3), (34, .iload_n 3, 1), (35, .iconst 0, 1), (36, .bipush 12, 2), (38, .invokestatic 37, 3), (41, .iload 4, 2), (43, .iconst 0, 1), (44, .sipush 2100, 3), (47, .invokestatic 37, 3), (50, .aload_n 0, 1), (51, .getfield 26, 3), (54, .iload_n 3, 1), (55, .invokevirtual 159, 3), (58, .iconst 0, 1), (59, .istore 6, 2), (61, .iload 6, 2), (63, .iload 5, 2), (65, .if_icmp .ge 31, 3), (68, .aload_n 0, 1), (69, .getfield 26, 3), (72, .getfield 162, 3), (75, .iload 6, 2), (77, .aload_n 0, 1), (78, .lload_n 1, 1), (79, .iload 6, 2), (81, .invokestatic 155, 3), (84, .iload 4, 2), (86, .invokevirtual 165, 3), (89, .iastore, 1), (90, .iinc 6 1, 3), (93, .goto (-32), 3), (96, .aload_n 0, 1), (97, .getfield 26, 3), (100, .invokevirtual 168, 3), (103, .ireturn, 1)]
def jK41 : List (Nat × Instr × Nat) := [(0, .iload_n 1, 1), (1, .ifCond .lt 14, 3), (4, .iload_n 1, 1), (5, .aload_n 0, 1), (6, .getfield 26, 3), (9, .getfield 172, 3), (12, .if_icmp .lt 13, 3), (15, .new 175, 3), (18, .dup, 1), (19, .ldc 177, 2), (21, .invokespecial 179, 3), (24, .athrow, 1), (25, .aload_n 0, 1), (26, .getfield 26, 3), (29, .getfield 180, 3), (32, .iload_n 1, 1), (33, .iaload, 1), (34, .ireturn, 1)]
def jK42 : List (Nat × Instr × Nat) := [(0, .aload_n 0, 1), (1, .iload_n 1, 1), (2, .invokevirtual 56, 3), (5, .iload_n 2, 1), (6, .ifCond .ge 13, 3), (9, .new 183, 3), (12, .dup, 1), (13, .ldc 185, 2), (15, .invokespecial 187, 3), (18, .athrow, 1), (19, .iconst 0, 1), (20, .istore_n 3, 1), (21, .iconst 0, 1), (22, .istore 4, 2), (24, .iload 4, 2), (26, .bipush 20, 2), (28, .if_icmp .ge 36, 3), (31, .aload_n 0, 1), (32, .iload 4, 2), (34, .iload_n 1, 1), (35, .invokevirtual 144, 3), (38, .aload_n 0, 1), (39, .getfield 30, 3), (42, .iconst 1, 1), (43, .iadd, 1), (44, .if_icmp .ne 14, 3), (47, .iload_n 3, 1), (48, .iload_n 2, 1), (49, .if_icmp .ne 6, 3), (52, .iload 4, 2), (54, .ireturn, 1), (55, .iinc 3 1, 3), (58, .iinc 4 1, 3), (61, .goto (-37), 3), (64, .iconst (-1), 1), (65, .ireturn, 1)]
def jK43 : List (Nat × Instr × Nat) := [(0, .iload_n 1, 1), (1, .tableswitch 60 0 3 #[31, 39, 47, 55], 31), (32, .aload_n 0, 1), (33, .getfield 12, 3), (36, .getfield 188, 3), (39, .ireturn, 1), (40, .aload_n 0, 1), (41, .getfield 19, 3), (44, .getfield 191, 3), (47, .ireturn, 1), (48, .aload_n 0, 1), (49, .getfield 19, 3), (52, .getfield 194, 3), (55, .ireturn, 1), (56, .aload_n 0, 1), (57, .invokevirtual 197, 3), (60, .ireturn, 1), (61, .new 175, 3), (64, .dup, 1), (65, .ldc 200, 2), (67, .invokespecial 179, 3), (70, .athrow, 1)]
def jK44 : List (Nat × Instr × Nat) := [(0, .iload_n 1, 1), (1, .ifCond .lt 14, 3), (4, .iload_n 1, 1), (5, .aload_n 0, 1), (6, .getfield 12, 3), (9, .getfield 188, 3), (12, .if_icmp .lt 13, 3), (15, .new 175, 3), (18, .dup, 1), (19, .ldc 202, 2), (21, .invokespecial 179, 3), (24, .athrow, 1), (25, .return_, 1)]
def jK45 : List (Nat × Instr × Nat) := [(0, .iload_n 1, 1), (1, .ifCond .lt 9, 3), (4, .iload_n 1, 1), (5, .bipush 20, 2), (7, .if_icmp .lt 13, 3), (10, .new 175, 3), (13, .dup, 1), (14, .ldc 204, 2), (16, .invokespecial 179, 3), (19, .athrow, 1), (20, .aload_n 0, 1), (21, .iload_n 2, 1), (22, .invokevirtual 56, 3), (25, .return_, 1)]
def jK46 : List (Nat × Instr × Nat) := [(0, .iload_n 0, 1), (1, .iload_n 1, 1), (2, .if_icmp .lt 8, 3), (5, .iload_n 0, 1), (6, .iload_n 2, 1), (7, .if_icmp .le 13, 3), (10, .new 183, 3), (13, .dup, 1), (14, .ldc 206, 2), (16, .invokespecial 187, 3), (19, .athrow, 1), (20, .return_, 1)]
def jK47 : List (Nat × Instr × Nat) := [(0, .aload_n 0, 1), (1, .getfield 19, 3), (4, .invokevirtual 208, 3), (7, .ifCond .eq 13, 3), (10, .new 45, 3), (13, .dup, 1), (14, .ldc 209, 2), (16, .invokespecial 49, 3), (19, .athrow, 1), (20, .return_, 1)]
def jK48 : List (Nat × Instr × Nat) := [(0, .iload_n 0, 1), (1, .bipush 16, 2), (3, .imul, 1), (4, .iload_n 1, 1), (5, .iadd, 1), (6, .ireturn, 1)]
def jK49 : List (Nat × Instr × Nat) := [(0, .iload_n 0, 1), (1, .iload_n 1, 1), (2, .ishr, 1), (3, .iconst 1, 1), (4, .iand, 1), (5, .ifCond .eq 7, 3), (8, .iconst 1, 1), (9, .goto 4, 3), (12, .iconst 0, 1), (13, .ireturn, 1)]
def jK50 : List (Nat × Instr × Nat) := [(0, .lload_n 0, 1), (1, .iconst 4, 1), (2, .iload_n 2, 1), (3, .imul, 1), (4, .lushr, 1), (5, .ldc2_w 211, 3), (8, .land, 1), (9, .l2i, 1), (10, .ireturn, 1)]
def jK51 : List (Nat × Instr × Nat) := [(0, .aload_n 0, 1), (1, .getfield 12, 3), (4, .iload_n 2, 1), (5, .invokevirtual 213, 3), (8, .aload_n 0, 1), (9, .getfield 19, 3), (12, .iload_n 1, 1), (13, .iload_n 2, 1), (14, .invokestatic 129, 3), (17, .aload_n 0, 1), (18, .getfield 30, 3), (21, .iload_n 3, 1), (22, .invokevirtual 216, 3), (25, .ireturn, 1)]
def jK52 : List (Nat × Instr × Nat) := [(0, .aload_n 0, 1), (1, .aload_n 0, 1), (2, .getfield 19, 3), (5, .getfield 217, 3), (8, .iload_n 1, 1), (9, .iload_n 2, 1), (10, .invokestatic 129, 3), (13, .iaload, 1), (14, .iload_n 2, 1), (15, .invokevirtual 141, 3), (18, .ireturn, 1)]
def jK53 : List (Nat × Instr × Nat) := [(0, .iload_n 1, 1), (1, .iconst (-1), 1), (2, .if_icmp .ne 5, 3), (5, .iconst (-1), 1), (6, .ireturn, 1), (7, .aload_n 0, 1), (8, .getfield 19, 3), (11, .getfield 220, 3), (14, .iload_n 1, 1), (15, .iaload, 1), (16, .aload_n 0, 1), (17, .getfield 12, 3), (20, .getfield 223, 3), (23, .iload_n 2, 1), (24, .iaload, 1), (25, .iadd, 1), (26, .aload_n 0, 1), (27, .getfield 19, 3), (30, .getfield 226, 3), (33, .iload_n 1, 1), (34, .iaload, 1), (35, .iadd, 1), (36, .ireturn, 1)]
def jK54 : List (Nat × Instr × Nat) := [(0, .aload_n 0, 1), (1, .getfield 30, 3), (4, .aload_n 0, 1), (5, .iload_n 1, 1), (6, .iload_n 2, 1), (7, .invokevirtual 144, 3), (10, .if_icmp .ge 7, 3), (13, .iconst 1, 1), (14, .goto 4, 3), (17, .iconst 0, 1), (18, .ireturn, 1)]
def jK55 : List (Nat × Instr × Nat) := [(0, .aload_n 0, 1), (1, .iload_n 1, 1), (2, .iload_n 2, 1), (3, .invokevirtual 229, 3), (6, .ifCond .ne 5, 3), (9, .iconst 1, 1), (10, .ireturn, 1), (11, .aload_n 0, 1), (12, .getfield 12, 3), (15, .getfield 119, 3), (18, .iload_n 2, 1), (19, .iaload, 1), (20, .iload_n 1, 1), (21, .invokestatic 73, 3), (24, .ifCond .eq 5, 3), (27, .iconst 2, 1), (28, .ireturn, 1), (29, .iload_n 1, 1), (30, .iload_n 2, 1), (31, .invokestatic 129, 3), (34, .istore_n 3, 1), (35, .aload_n 0, 1), (36, .getfield 19, 3), (39, .getfield 147, 3), (42, .iload_n 3, 1), (43, .iaload, 1), (44, .iconst 3, 1), (45, .if_icmp .lt 7, 3), (48, .iconst 1, 1), (49, .goto 4, 3), (52, .iconst 0, 1), (53, .istore 4, 2), (55, .iload 4, 2), (57, .ifCond .eq 26, 3), (60, .aload_n 0, 1), (61, .getfield 30, 3), (64, .aload_n 0, 1), (65, .getfield 19, 3), (68, .getfield 232, 3), (71, .iload_n 3, 1), (72, .iaload, 1), (73, .isub, 1), (74, .aload_n 0, 1), (75, .getfield 34, 3), (78, .if_icmp .ge 5, 3), (81, .iconst 3, 1), (82, .ireturn, 1), (83, .iconst 0, 1), (84, .ireturn, 1)]
def jK56 : List (Nat × Instr × Nat) := [(0, .iconst 0, 1), (1, .istore_n 3, 1), (2, .iload_n 3, 1), (3, .aload_n 0, 1), (4, .getfield 12, 3), (7, .getfield 188, 3), (10, .if_icmp .ge 36, 3), (13, .aload_n 0, 1), (14, .getfield 12, 3), (17, .getfield 69, 3), (20, .iload_n 2, 1), (21, .iaload, 1), (22, .iload_n 3, 1), (23, .invokestatic 73, 3), (26, .ifCond .eq 14, 3), (29, .aload_n 0, 1), (30, .iload_n 1, 1), (31, .iload_n 3, 1), (32, .invokevirtual 124, 3), (35, .ifCond .ne 5, 3), (38, .iconst 0, 1), (39, .ireturn, 1), (40, .iinc 3 1, 3), (43, .goto (-41), 3), (46, .iconst 1, 1), (47, .ireturn, 1)]
def jK57 : List (Nat × Instr × Nat) := [(0, .aload_n 0, 1), (1, .getfield 12, 3), (4, .getfield 85, 3), (7, .iload_n 1, 1), (8, .iaload, 1), (9, .aload_n 0, 1), (10, .iload_n 1, 1), (11, .invokevirtual 235, 3), (14, .imul, 1), (15, .istore_n 2, 1), (16, .iconst 0, 1), (17, .iload_n 2, 1), (18, .aload_n 0, 1), (19, .getfield 12, 3), (22, .getfield 238, 3), (25, .iload_n 1, 1), (26, .iaload, 1), (27, .isub, 1), (28, .invokestatic 241, 3), (31, .ireturn, 1)]
def jK58 : List (Nat × Instr × Nat) := [(0, .iconst 0, 1), (1, .istore_n 2, 1), (2, .iconst 0, 1), (3, .istore_n 3, 1), (4, .iload_n 3, 1), (5, .bipush 20, 2), (7, .if_icmp .ge 37, 3), (10, .aload_n 0, 1), (11, .getfield 12, 3), (14, .getfield 119, 3), (17, .iload_n 1, 1), (18, .iaload, 1), (19, .iload_n 3, 1), (20, .invokestatic 73, 3), (23, .ifCond .eq 15, 3), (26, .aload_n 0, 1), (27, .iload_n 3, 1), (28, .iload_n 1, 1), (29, .invokevirtual 124, 3), (32, .ifCond .eq 6, 3), (35, .iinc 2 1, 3), (38, .iinc 3 1, 3), (41, .goto (-37), 3), (44, .iload_n 2, 1), (45, .ireturn, 1)]
def jK59 : List (Nat × Instr × Nat) := [(0, .iconst 0, 1), (1, .istore_n 1, 1), (2, .iconst 0, 1), (3, .istore_n 2, 1), (4, .iload_n 2, 1), (5, .aload_n 0, 1), (6, .getfield 12, 3), (9, .getfield 188, 3), (12, .if_icmp .ge 17, 3), (15, .iload_n 1, 1), (16, .aload_n 0, 1), (17, .iload_n 2, 1), (18, .invokevirtual 235, 3), (21, .iadd, 1), (22, .istore_n 1, 1), (23, .iinc 2 1, 3), (26, .goto (-22), 3), (29, .iload_n 1, 1), (30, .ireturn, 1)]
def jK60 : List (Nat × Instr × Nat) := [(0, .iconst 0, 1), (1, .istore_n 3, 1), (2, .iconst 0, 1), (3, .istore 4, 2), (5, .iload 4, 2), (7, .bipush 20, 2), (9, .if_icmp .ge 41, 3), (12, .aload_n 0, 1), (13, .iload 4, 2), (15, .iload_n 1, 1), (16, .invokevirtual 144, 3), (19, .aload_n 0, 1), (20, .getfield 30, 3), (23, .isub, 1), (24, .istore 5, 2), (26, .iload 5, 2), (28, .ifCond .le 16, 3), (31, .iload 5, 2), (33, .iload_n 2, 1), (34, .if_icmp .gt 10, 3), (37, .iload_n 3, 1), (38, .iconst 1, 1), (39, .iload 4, 2), (41, .ishl, 1), (42, .ior, 1), (43, .istore_n 3, 1), (44, .iinc 4 1, 3), (47, .goto (-42), 3), (50, .iload_n 3, 1), (51, .ireturn, 1)]
def jK61 : List (Nat × Instr × Nat) := [(0, .aload_n 0, 1), (1, .invokespecial 1, 3), (4, .aload_n 0, 1), (5, .bipush 30, 2), (7, .putfield 7, 3), (10, .aload_n 0, 1), (11, .bipush 16, 2), (13, .newarray .int, 2), (15, .putfield 13, 3), (18, .aload_n 0, 1), (19, .bipush 16, 2), (21, .newarray .int, 2), (23, .putfield 17, 3), (26, .aload_n 0, 1), (27, .bipush 16, 2), (29, .newarray .int, 2), (31, .putfield 20, 3), (34, .aload_n 0, 1), (35, .bipush 16, 2), (37, .newarray .int, 2), (39, .putfield 23, 3), (42, .aload_n 0, 1), (43, .sipush 256, 3), (46, .newarray .boolean, 2), (48, .putfield 26, 3), (51, .aload_n 0, 1), (52, .sipush 320, 3), (55, .newarray .boolean, 2), (57, .putfield 30, 3), (60, .aload_n 0, 1), (61, .sipush 300, 3), (64, .newarray .int, 2), (66, .putfield 33, 3), (69, .aload_n 0, 1), (70, .sipush 300, 3), (73, .newarray .int, 2), (75, .putfield 36, 3), (78, .aload_n 0, 1), (79, .sipush 300, 3), (82, .newarray .int, 2), (84, .putfield 39, 3), (87, .aload_n 0, 1), (88, .sipush 300, 3), (91, .newarray .boolean, 2), (93, .putfield 42, 3), (96, .aload_n 0, 1), (97, .sipush 300, 3), (100, .newarray .int, 2), (102, .putfield 45, 3), (105, .aload_n 0, 1), (106, .sipush 15000, 3), (109, .newarray .int, 2), (111, .putfield 48, 3), (114, .aload_n 0, 1), (115, .sipush 320, 3), (118, .newarray .int, 2), (120, .putfield 51, 3), (123, .aload_n 0, 1), (124, .bipush 12, 2), (126, .newarray .int, 2), (128, .putfield 54, 3), (131, .aload_n 0, 1), (132, .bipush 12, 2), (134, .newarray .int, 2), (136, .putfield 57, 3), (139, .aload_n 0, 1), (140, .bipush 20, 2), (142, .newarray .int, 2), (144, .putfield 60, 3), (147, .aload_n 0, 1), (148, .sipush 240, 3), (151, .newarray .boolean, 2), (153, .putfield 63, 3), (156, .aload_n 0, 1), (157, .bipush 20, 2), (159, .newarray .int, 2), (161, .putfield 66, 3), (164, .aload_n 0, 1), (165, .bipush 20, 2), (167, .newarray .int, 2), (169, .putfield 69, 3), (172, .iconst 0, 1), (173, .istore_n 1, 1), (174, .iload_n 1, 1), (175, .sipush 320, 3), (178, .if_icmp .ge 16, 3), (181, .aload_n 0, 1), (182, .getfield 51, 3), (185, .iload_n 1, 1), (186, .iconst (-1), 1), (187, .iastore, 1), (188, .iinc 1 1, 3), (191, .goto (-17), 3), (194, .return_, 1)]
def jK62 : List (Nat × Instr × Nat) := [(0, .aload_n 0, 1), (1, .getfield 72, 3), (4, .ireturn, 1)]
def jK63 : List (Nat × Instr × Nat) := [(0, .aload_n 0, 1), (1, .iload_n 1, 1), (2, .ifCond .eq 7, 3), (5, .iconst 1, 1), (6, .goto 29, 3), (9, .iload_n 2, 1), (10, .ifCond .eq 7, 3), (13, .iconst 2, 1), (14, .goto 21, 3), (17, .iload_n 3, 1), (18, .ifCond .eq 7, 3), (21, .iconst 3, 1), (22, .goto 13, 3), (25, .iload 4, 2), (27, .ifCond .eq 7, 3), (30, .iconst 4, 1), (31, .goto 4, 3), (34, .iconst 0, 1), (35, .putfield 72, 3), (38, .aload_n 0, 1), (39, .getfield 72, 3), (42, .ifCond .le 7, 3), (45, .iconst 1, 1), (46, .goto 4, 3), (49, .iconst 0, 1), (50, .ireturn, 1)]
def jK64 : List (Nat × Instr × Nat) := [(0, .iload_n 0, 1), (1, .iload_n 1, 1), (2, .if_icmp .lt 12, 3), (5, .iload_n 0, 1), (6, .iload_n 2, 1), (7, .if_icmp .gt 7, 3), (10, .iconst 1, 1), (11, .goto 4, 3), (14, .iconst 0, 1), (15, .ireturn, 1)]
def jK65 : List (Nat × Instr × Nat) := [(0, .iload_n 1, 1), (1, .iconst 0, 1), (2, .aload_n 0, 1), (3, .getfield 75, 3), (6, .iconst 1, 1), (7, .isub, 1), (8, .invokestatic 78, 3), (11, .ireturn, 1)]
def jK66 : List (Nat × Instr × Nat) := [(0, .iload_n 1, 1), (1, .iconst 0, 1), (2, .bipush 19, 2), (4, .invokestatic 78, 3), (7, .ifCond .eq 15, 3), (10, .aload_n 0, 1), (11, .iload_n 2, 1), (12, .invokevirtual 82, 3), (15, .ifCond .eq 7, 3), (18, .iconst 1, 1), (19, .goto 4, 3), (22, .iconst 0, 1), (23, .ireturn, 1)]
def jK67 : List (Nat × Instr × Nat) := [(0, .aload_n 0, 1), (1, .iload_n 1, 1), (2, .iconst 1, 1), (3, .sipush 2000, 3), (6, .invokestatic 78, 3), (9, .ifCond .eq 23, 3), (12, .iload_n 2, 1), (13, .iconst 0, 1), (14, .bipush 100, 2), (16, .invokestatic 78, 3), (19, .ifCond .eq 13, 3), (22, .iload_n 3, 1), (23, .iconst 0, 1), (24, .bipush 50, 2), (26, .invokestatic 78, 3), (29, .ifCond .ne 7, 3), (32, .iconst 1, 1), (33, .goto 4, 3), (36, .iconst 0, 1), (37, .aload_n 0, 1), (38, .getfield 75, 3), (41, .bipush 16, 2), (43, .if_icmp .ne 7, 3), (46, .iconst 1, 1), (47, .goto 4, 3), (50, .iconst 0, 1), (51, .iconst 0, 1), (52, .iconst 0, 1), (53, .invokevirtual 86, 3), (56, .ifCond .eq 5, 3), (59, .iconst 0, 1), (60, .ireturn, 1), (61, .aload_n 0, 1), (62, .getfield 13, 3), (65, .aload_n 0, 1), (66, .getfield 75, 3), (69, .iload_n 1, 1), (70, .iastore, 1), (71, .aload_n 0, 1), (72, .getfield 17, 3), (75, .aload_n 0, 1), (76, .getfield 75, 3), (79, .iload_n 2, 1), (80, .iastore, 1), (81, .aload_n 0, 1), (82, .getfield 20, 3), (85, .aload_n 0, 1), (86, .getfield 75, 3), (89, .iload_n 3, 1), (90, .iastore, 1), (91, .aload_n 0, 1), (92, .getfield 23, 3), (95, .aload_n 0, 1), (96, .getfield 75, 3), (99, .iconst 3, 1), (100, .iastore, 1), (101, .aload_n 0, 1), (102, .dup, 1), (103, .getfield 75, 3), (106, .iconst 1, 1), (107, .iadd, 1), (108, .putfield 75, 3), (111, .aload_n 0, 1), (112, .getfield 75, 3), (115, .iconst 1, 1), (116, .isub, 1), (117, .ireturn, 1)]
def jK68 : List (Nat × Instr × Nat) := [(0, .iconst 1, 1), (1, .iload_n 1, 1), (2, .ishl, 1), (3, .istore_n 3, 1), (4, .iconst 1, 1), (5, .istore 4, 2), (7, .iload 4, 2), (9, .ifCond .eq 104, 3), (12, .iconst 0, 1), (13, .istore 4, 2), (15, .iconst 0, 1), (16, .istore 5, 2), (18, .iload 5, 2), (20, .sipush 256, 3), (23, .if_icmp .ge 87, 3), (26, .aload_n 0, 1), (27, .getfield 26, 3), (30, .iload 5, 2), (32, .baload, 1), (33, .ifCond .eq 32, 3), (36, .iload_n 3, 1), (37, .iload 5, 2), (39, .bipush 16, 2), (41, .idiv, 1), (42, .ishr, 1), (43, .iconst 1, 1), (44, .iand, 1), (45, .iconst 1, 1), (46, .if_icmp .ne 19, 3), (49, .iload_n 3, 1), (50, .iload 5, 2), (52, .bipush 16, 2), (54, .irem, 1), (55, .ishr, 1), (56, .iconst 1, 1), (57, .iand, 1), (58, .ifCond .ne 7, 3), (61, .iconst 1, 1), (62, .goto 4, 3), (65, .iconst 0, 1), (66, .istore 6, 2), (68, .iload_n 3, 1), (69, .iload 6, 2), (71, .ifCond .eq 13, 3), (74, .iconst 1, 1), (75, .iload 5, 2), (77, .bipush 16, 2), (79, .irem, 1), (80, .ishl, 1), (81, .goto 4, 3), (84, .iconst 0, 1), (85, .ior, 1), (86, .istore_n 3, 1), (87, .iload 4, 2), (89, .ifCond .ne 8, 3), (92, .iload 6, 2), (94, .ifCond .eq 7, 3), (97, .iconst 1, 1), (98, .goto 4, 3), (101, .iconst 0, 1), (102, .istore 4, 2), (104, .iinc 5 1, 3), (107, .goto (-89), 3), (110, .goto (-103), 3), (113, .iload_n 3, 1), (114, .iload_n 2, 1), (115, .ishr, 1), (116, .iconst 1, 1), (117, .iand, 1), (118, .iconst 1, 1), (119, .if_icmp .ne 7, 3), (122, .iconst 1, 1), (123, .goto 4, 3), (126, .iconst 0, 1), (127, .ireturn, 1)]
def jK69 : List (Nat × Instr × Nat) := [(0, .aload_n 0, 1), (1, .iload_n 1, 1), (2, .invokevirtual 82, 3), (5, .ifCond .eq 11, 3), (8, .aload_n 0, 1), (9, .iload_n 2, 1), (10, .invokevirtual 82, 3), (13, .ifCond .ne 7, 3), (16, .iconst 1, 1), (17, .goto 4, 3), (20, .iconst 0, 1), (21, .istore_n 3, 1), (22, .aload_n 0, 1), (23, .iload_n 3, 1), (24, .iload_n 3, 1), (25, .ifCond .ne 30, 3), (28, .aload_n 0, 1), (29, .getfield 26, 3), (32, .bipush 16, 2), (34, .iload_n 1, 1), (35, .imul, 1), (36, .iload_n 2, 1), (37, .iadd, 1), (38, .baload, 1), (39, .ifCond .ne 12, 3), (42, .aload_n 0, 1), (43, .iload_n 2, 1), (44, .iload_n 1, 1), (45, .invokevirtual 90, 3), (48, .ifCond .eq 7, 3), (51, .iconst 1, 1), (52, .goto 4, 3), (55, .iconst 0, 1), (56, .iconst 0, 1), (57, .iconst 0, 1), (58, .invokevirtual 86, 3), (61, .ifCond .eq 4, 3), (64, .return_, 1), (65, .aload_n 0, 1), (66, .getfield 26, 3), (69, .bipush 16, 2), (71, .iload_n 1, 1), (72, .imul, 1), (73, .iload_n 2, 1), (74, .iadd, 1), (75, .iconst 1, 1), (76, .bastore, 1), (77, .return_, 1)]
def jK70 : List (Nat × Instr × Nat) := [(0, .aload_n 0, 1), (1, .iload_n 1, 1), (2, .iconst 0, 1), (3, .sipush 1000, 3), (6, .invokestatic 78, 3), (9, .ifCond .ne 7, 3), (12, .iconst 1, 1), (13, .goto 4, 3), (16, .iconst 0, 1), (17, .iconst 0, 1), (18, .iconst 0, 1), (19, .iconst 0, 1), (20, .invokevirtual 86, 3), (23, .ifCond .eq 4, 3), (26, .return_, 1), (27, .aload_n 0, 1), (28, .iload_n 1, 1), (29, .putfield 7, 3), (32, .return_, 1)]
def jK71 : List (Nat × Instr × Nat) := [(0, .aload_n 0, 1), (1, .iload_n 1, 1), (2, .aload_n 0, 1), (3, .getfield 94, 3), (6, .if_icmp .lt 10, 3), (9, .iload_n 1, 1), (10, .sipush 9999, 3), (13, .if_icmp .le 7, 3), (16, .iconst 1, 1), (17, .goto 4, 3), (20, .iconst 0, 1), (21, .iconst 0, 1), (22, .iconst 0, 1), (23, .iconst 0, 1), (24, .invokevirtual 86, 3), (27, .ifCond .eq 4, 3), (30, .return_, 1), (31, .aload_n 0, 1), (32, .iload_n 1, 1), (33, .putfield 94, 3), (36, .return_, 1)]
def jK72 : List (Nat × Instr × Nat) := [(0, .aload_n 0, 1), (1, .aload_n 0, 1), (2, .iload_n 1, 1), (3, .invokevirtual 82, 3), (6, .ifCond .ne 7, 3), (9, .iconst 1, 1), (10, .goto 4, 3), (13, .iconst 0, 1), (14, .iload_n 2, 1), (15, .iconst 0, 1), (16, .bipush 10, 2), (18, .invokestatic 78, 3), (21, .ifCond .ne 7, 3), (24, .iconst 1, 1), (25, .goto 4, 3), (28, .iconst 0, 1), (29, .iconst 0, 1), (30, .iconst 0, 1), (31, .invokevirtual 86, 3), (34, .ifCond .eq 4, 3), (37, .return_, 1), (38, .aload_n 0, 1), (39, .getfield 23, 3), (42, .iload_n 1, 1), (43, .iload_n 2, 1), (44, .iastore, 1), (45, .return_, 1)]
def jK73 : List (Nat × Instr × Nat) := [(0, .iconst (-1), 1), (1, .istore 4, 2), (3, .iconst 0, 1), (4, .istore 5, 2), (6, .iload 5, 2), (8, .aload_n 0, 1), (9, .getfield 97, 3), (12, .if_icmp .ge 61, 3), (15, .aload_n 0, 1), (16, .getfield 33, 3), (19, .iload 5, 2), (21, .iaload, 1), (22, .iload_n 1, 1), (23, .if_icmp .ne 40, 3), (26, .aload_n 0, 1), (27, .getfield 36, 3), (30, .iload 5, 2), (32, .iaload, 1), (33, .iload_n 2, 1), (34, .if_icmp .ne 29, 3), (37, .aload_n 0, 1), (38, .getfield 42, 3), (41, .iload 5, 2), (43, .baload, 1), (44, .ifCond .eq 19, 3), (47, .aload_n 0, 1), (48, .getfield 39, 3), (51, .iload 5, 2), (53, .iaload, 1), (54, .iload_n 3, 1), (55, .if_icmp .gt 8, 3), (58, .iload 5, 2), (60, .goto 5, 3), (63, .iload 4, 2), (65, .istore 4, 2), (67, .iinc 5 1, 3), (70, .goto (-64), 3), (73, .iload 4, 2), (75, .ireturn, 1)]
def jK74 : List (Nat × Instr × Nat) := [(0, .iconst 0, 1), (1, .istore_n 3, 1), (2, .iconst 0, 1), (3, .istore 4, 2), (5, .iload 4, 2), (7, .aload_n 0, 1), (8, .getfield 45, 3), (11, .iload_n 1, 1), (12, .iaload, 1), (13, .if_icmp .ge 33, 3), (16, .iload_n 3, 1), (17, .aload_n 0, 1), (18, .getfield 48, 3), (21, .bipush 50, 2), (23, .iload_n 1, 1), (24, .imul, 1), (25, .iload 4, 2), (27, .iadd, 1), (28, .iaload, 1), (29, .iload_n 2, 1), (30, .if_icmp .gt 7, 3), (33, .iconst 1, 1), (34, .goto 4, 3), (37, .iconst 0, 1), (38, .iadd, 1), (39, .istore_n 3, 1), (40, .iinc 4 1, 3), (43, .goto (-38), 3), (46, .aload_n 0, 1), (47, .getfield 39, 3), (50, .iload_n 1, 1), (51, .iaload, 1), (52, .aload_n 0, 1), (53, .getfield 13, 3), (56, .aload_n 0, 1), (57, .getfield 36, 3), (60, .iload_n 1, 1), (61, .iaload, 1), (62, .iaload, 1), (63, .iadd, 1), (64, .iload_n 3, 1), (65, .iadd, 1), (66, .ireturn, 1)]
def jK75 : List (Nat × Instr × Nat) := [(0, .aload_n 0, 1), (1, .iload_n 1, 1), (2, .iload_n 2, 1), (3, .iload_n 3, 1), (4, .invokevirtual 100, 3), (7, .istore 4, 2), (9, .iload 4, 2), (11, .ifCond .lt 18, 3), (14, .iload_n 3, 1), (15, .aload_n 0, 1), (16, .iload 4, 2), (18, .iload_n 3, 1), (19, .invokevirtual 104, 3), (22, .if_icmp .ge 7, 3), (25, .iconst 1, 1), (26, .goto 4, 3), (29, .iconst 0, 1), (30, .ireturn, 1)]
def jK76 : List (Nat × Instr × Nat) := [(0, .iconst 0, 1), (1, .istore_n 3, 1), (2, .iconst 0, 1), (3, .istore 4, 2), (5, .iload 4, 2), (7, .aload_n 0, 1), (8, .getfield 97, 3), (11, .if_icmp .ge 49, 3), (14, .aload_n 0, 1), (15, .getfield 33, 3), (18, .iload 4, 2), (20, .iaload, 1), (21, .iload_n 1, 1), (22, .if_icmp .ne 32, 3), (25, .aload_n 0, 1), (26, .getfield 36, 3), (29, .iload 4, 2), (31, .iaload, 1), (32, .iload_n 2, 1), (33, .if_icmp .ne 21, 3), (36, .aload_n 0, 1), (37, .getfield 42, 3), (40, .iload 4, 2), (42, .baload, 1), (43, .ifCond .eq 7, 3), (46, .iconst 0, 1), (47, .goto 6, 3), (50, .iload_n 3, 1), (51, .iconst 1, 1), (52, .iadd, 1), (53, .istore_n 3, 1), (54, .iinc 4 1, 3), (57, .goto (-52), 3), (60, .iload_n 3, 1), (61, .ireturn, 1)]
def jK77 : List (Nat × Instr × Nat) := [(0, .iconst (-1), 1), (1, .istore_n 3, 1), (2, .iconst 0, 1), (3, .istore 4, 2), (5, .iload 4, 2), (7, .aload_n 0, 1), (8, .getfield 97, 3), (11, .if_icmp .ge 38, 3), (14, .aload_n 0, 1), (15, .getfield 33, 3), (18, .iload 4, 2), (20, .iaload, 1), (21, .iload_n 1, 1), (22, .if_icmp .ne 19, 3), (25, .aload_n 0, 1), (26, .getfield 36, 3), (29, .iload 4, 2), (31, .iaload, 1), (32, .iload_n 2, 1), (33, .if_icmp .ne 8, 3), (36, .iload 4, 2), (38, .goto 4, 3), (41, .iload_n 3, 1), (42, .istore_n 3, 1), (43, .iinc 4 1, 3), (46, .goto (-41), 3), (49, .iload_n 3, 1), (50, .ireturn, 1)]
def jK78 : List (Nat × Instr × Nat) := [(0, .iconst 0, 1), (1, .istore_n 3, 1), (2, .iload_n 3, 1), (3, .aload_n 0, 1), (4, .getfield 75, 3), (7, .if_icmp .ge 38, 3), (10, .aload_n 0, 1), (11, .getfield 26, 3), (14, .bipush 16, 2), (16, .iload_n 2, 1), (17, .imul, 1), (18, .iload_n 3, 1), (19, .iadd, 1), (20, .baload, 1), (21, .ifCond .eq 18, 3), (24, .aload_n 0, 1), (25, .iload_n 1, 1), (26, .iload_n 3, 1), (27, .aload_n 0, 1), (28, .getfield 94, 3), (31, .invokevirtual 108, 3), (34, .ifCond .ne 5, 3), (37, .iconst 1, 1), (38, .ireturn, 1), (39, .iinc 3 1, 3), (42, .goto (-40), 3), (45, .aload_n 0, 1), (46, .getfield 30, 3), (49, .bipush 16, 2), (51, .iload_n 1, 1), (52, .imul, 1), (53, .iload_n 2, 1), (54, .iadd, 1), (55, .baload, 1), (56, .ifCond .eq 5, 3), (59, .iconst 2, 1), (60, .ireturn, 1), (61, .aload_n 0, 1), (62, .iload_n 1, 1), (63, .iload_n 2, 1), (64, .invokevirtual 111, 3), (67, .iconst 3, 1), (68, .if_icmp .lt 30, 3), (71, .aload_n 0, 1), (72, .getfield 94, 3), (75, .aload_n 0, 1), (76, .getfield 39, 3), (79, .aload_n 0, 1), (80, .iload_n 1, 1), (81, .iload_n 2, 1), (82, .invokevirtual 114, 3), (85, .iaload, 1), (86, .isub, 1), (87, .aload_n 0, 1), (88, .getfield 7, 3), (91, .if_icmp .ge 7, 3), (94, .iconst 3, 1), (95, .goto 4, 3), (98, .iconst 0, 1), (99, .ireturn, 1)]
def jK79 : List (Nat × Instr × Nat) := [(0, .aload_n 0, 1), (1, .getfield 30, 3), (4, .bipush 16, 2), (6, .iload_n 1, 1), (7, .imul, 1), (8, .iload_n 2, 1), (9, .iadd, 1), (10, .baload, 1), (11, .ifCond .eq 20, 3), (14, .aload_n 0, 1), (15, .iload_n 1, 1), (16, .iload_n 2, 1), (17, .aload_n 0, 1), (18, .getfield 94, 3), (21, .invokevirtual 108, 3), (24, .ifCond .eq 7, 3), (27, .iconst 1, 1), (28, .goto 4, 3), (31, .iconst 0, 1), (32, .ireturn, 1)]
def jK80 : List (Nat × Instr × Nat) := [(0, .iconst 0, 1), (1, .istore_n 2, 1), (2, .iconst 0, 1), (3, .istore_n 3, 1), (4, .iload_n 3, 1), (5, .bipush 20, 2), (7, .if_icmp .ge 31, 3), (10, .iload_n 2, 1), (11, .aload_n 0, 1), (12, .iload_n 3, 1), (13, .iload_n 1, 1), (14, .invokevirtual 117, 3), (17, .ifCond .eq 12, 3), (20, .aload_n 0, 1), (21, .getfield 23, 3), (24, .iload_n 1, 1), (25, .iaload, 1), (26, .goto 4, 3), (29, .iconst 0, 1), (30, .iadd, 1), (31, .istore_n 2, 1), (32, .iinc 3 1, 3), (35, .goto (-31), 3), (38, .iconst 0, 1), (39, .istore_n 3, 1), (40, .iload_n 3, 1), (41, .aload_n 0, 1), (42, .getfield 97, 3), (45, .if_icmp .ge 40, 3), (48, .iload_n 2, 1), (49, .aload_n 0, 1), (50, .getfield 36, 3), (53, .iload_n 3, 1), (54, .iaload, 1), (55, .iload_n 1, 1), (56, .if_icmp .ne 20, 3), (59, .aload_n 0, 1), (60, .getfield 39, 3), (63, .iload_n 3, 1), (64, .iaload, 1), (65, .aload_n 0, 1), (66, .getfield 94, 3), (69, .if_icmp .ne 7, 3), (72, .iconst 1, 1), (73, .goto 4, 3), (76, .iconst 0, 1), (77, .isub, 1), (78, .istore_n 2, 1), (79, .iinc 3 1, 3), (82, .goto (-42), 3), (85, .iload_n 2, 1), (86, .ifCond .ge 7, 3), (89, .iconst 0, 1), (90, .goto 4, 3), (93, .iload_n 2, 1), (94, .ireturn, 1)]
def jK81 : List (Nat × Instr × Nat) := [(0, .aload_n 0, 1), (1, .getfield 33, 3), (4, .aload_n 0, 1), (5, .getfield 97, 3), (8, .iload_n 1, 1), (9, .iastore, 1), (10, .aload_n 0, 1), (11, .getfield 36, 3), (14, .aload_n 0, 1), (15, .getfield 97, 3), (18, .iload_n 2, 1), (19, .iastore, 1), (20, .aload_n 0, 1), (21, .getfield 39, 3), (24, .aload_n 0, 1), (25, .getfield 97, 3), (28, .aload_n 0, 1), (29, .getfield 94, 3), (32, .iastore, 1), (33, .aload_n 0, 1), (34, .getfield 42, 3), (37, .aload_n 0, 1), (38, .getfield 97, 3), (41, .iload_n 3, 1), (42, .bastore, 1), (43, .aload_n 0, 1), (44, .dup, 1), (45, .getfield 97, 3), (48, .iconst 1, 1), (49, .iadd, 1), (50, .putfield 97, 3), (53, .aload_n 0, 1), (54, .getfield 97, 3), (57, .iconst 1, 1), (58, .isub, 1), (59, .ireturn, 1)]
def jK82 : List (Nat × Instr × Nat) := [(0, .aload_n 0, 1), (1, .iload_n 1, 1), (2, .iload_n 2, 1), (3, .invokevirtual 120, 3), (6, .ifCond .ne 7, 3), (9, .iconst 1, 1), (10, .goto 4, 3), (13, .iconst 0, 1), (14, .istore 4, 2), (16, .iload_n 3, 1), (17, .iconst 0, 1), (18, .bipush 100, 2), (20, .invokestatic 78, 3), (23, .ifCond .ne 7, 3), (26, .iconst 1, 1), (27, .goto 4, 3), (30, .iconst 0, 1), (31, .istore 5, 2), (33, .aload_n 0, 1), (34, .iload 4, 2), (36, .iload 5, 2), (38, .iload 4, 2), (40, .ifCond .ne 16, 3), (43, .aload_n 0, 1), (44, .iload_n 1, 1), (45, .iload_n 2, 1), (46, .invokevirtual 123, 3), (49, .ifCond .le 7, 3), (52, .iconst 1, 1), (53, .goto 4, 3), (56, .iconst 0, 1), (57, .iload 4, 2), (59, .ifCond .ne 11, 3), (62, .aload_n 0, 1), (63, .iload_n 2, 1), (64, .invokevirtual 126, 3), (67, .ifCond .eq 13, 3), (70, .aload_n 0, 1), (71, .getfield 97, 3), (74, .sipush 300, 3), (77, .if_icmp .ne 7, 3), (80, .iconst 1, 1), (81, .goto 4, 3), (84, .iconst 0, 1), (85, .invokevirtual 86, 3), (88, .ifCond .eq 5, 3), (91, .iconst 0, 1), (92, .ireturn, 1), (93, .aload_n 0, 1), (94, .iload_n 1, 1), (95, .iload_n 2, 1), (96, .iload_n 3, 1), (97, .aload_n 0, 1), (98, .getfield 17, 3), (101, .iload_n 2, 1), (102, .iaload, 1), (103, .if_icmp .lt 7, 3), (106, .iconst 1, 1), (107, .goto 4, 3), (110, .iconst 0, 1), (111, .invokevirtual 130, 3), (114, .ireturn, 1)]
def jK83 : List (Nat × Instr × Nat) := [(0, .aload_n 0, 1), (1, .iload_n 1, 1), (2, .iload_n 2, 1), (3, .invokevirtual 120, 3), (6, .ifCond .ne 7, 3), (9, .iconst 1, 1), (10, .goto 4, 3), (13, .iconst 0, 1), (14, .istore_n 3, 1), (15, .iconst 0, 1), (16, .istore 4, 2), (18, .iconst 0, 1), (19, .istore 5, 2), (21, .iload 5, 2), (23, .aload_n 0, 1), (24, .getfield 97, 3), (27, .if_icmp .ge 32, 3), (30, .iload 4, 2), (32, .ifCond .ne 14, 3), (35, .aload_n 0, 1), (36, .getfield 36, 3), (39, .iload 5, 2), (41, .iaload, 1), (42, .iload_n 2, 1), (43, .if_icmp .ne 7, 3), (46, .iconst 1, 1), (47, .goto 4, 3), (50, .iconst 0, 1), (51, .istore 4, 2), (53, .iinc 5 1, 3), (56, .goto (-35), 3), (59, .aload_n 0, 1), (60, .iload_n 3, 1), (61, .iload 4, 2), (63, .aload_n 0, 1), (64, .getfield 97, 3), (67, .sipush 300, 3), (70, .if_icmp .ne 7, 3), (73, .iconst 1, 1), (74, .goto 4, 3), (77, .iconst 0, 1), (78, .iconst 0, 1), (79, .invokevirtual 86, 3), (82, .ifCond .eq 5, 3), (85, .iconst 0, 1), (86, .ireturn, 1), (87, .aload_n 0, 1), (88, .iload_n 1, 1), (89, .iload_n 2, 1), (90, .iconst 1, 1), (91, .invokevirtual 130, 3), (94, .ireturn, 1)]
def jK84 : List (Nat × Instr × Nat) := [(0, .aload_n 0, 1), (1, .iload_n 1, 1), (2, .iload_n 2, 1), (3, .invokevirtual 120, 3), (6, .ifCond .ne 7, 3), (9, .iconst 1, 1), (10, .goto 4, 3), (13, .iconst 0, 1), (14, .istore 4, 2), (16, .aload_n 0, 1), (17, .iload 4, 2), (19, .iload 4, 2), (21, .ifCond .ne 39, 3), (24, .aload_n 0, 1), (25, .getfield 30, 3), (28, .bipush 16, 2), (30, .iload_n 1, 1), (31, .imul, 1), (32, .iload_n 2, 1), (33, .iadd, 1), (34, .baload, 1), (35, .iload_n 3, 1), (36, .if_icmp .eq 20, 3), (39, .iload_n 3, 1), (40, .ifCond .eq 20, 3), (43, .aload_n 0, 1), (44, .iload_n 1, 1), (45, .iload_n 2, 1), (46, .aload_n 0, 1), (47, .getfield 94, 3), (50, .invokevirtual 108, 3), (53, .ifCond .ne 7, 3), (56, .iconst 1, 1), (57, .goto 4, 3), (60, .iconst 0, 1), (61, .iconst 0, 1), (62, .iconst 0, 1), (63, .invokevirtual 86, 3), (66, .ifCond .eq 4, 3), (69, .return_, 1), (70, .aload_n 0, 1), (71, .getfield 30, 3), (74, .bipush 16, 2), (76, .iload_n 1, 1), (77, .imul, 1), (78, .iload_n 2, 1), (79, .iadd, 1), (80, .iload_n 3, 1), (81, .bastore, 1), (82, .return_, 1)]
def jK85 : List (Nat × Instr × Nat) := [(0, .aload_n 0, 1), (1, .iload_n 1, 1), (2, .iload_n 2, 1), (3, .invokevirtual 120, 3), (6, .ifCond .ne 7, 3), (9, .iconst 1, 1), (10, .goto 4, 3), (13, .iconst 0, 1), (14, .istore_n 3, 1), (15, .aload_n 0, 1), (16, .iload_n 3, 1), (17, .iload_n 3, 1), (18, .ifCond .ne 20, 3), (21, .aload_n 0, 1), (22, .iload_n 1, 1), (23, .iload_n 2, 1), (24, .aload_n 0, 1), (25, .getfield 94, 3), (28, .invokevirtual 108, 3), (31, .ifCond .ne 7, 3), (34, .iconst 1, 1), (35, .goto 4, 3), (38, .iconst 0, 1), (39, .iconst 0, 1), (40, .iconst 0, 1), (41, .invokevirtual 86, 3), (44, .ifCond .eq 5, 3), (47, .iconst 0, 1), (48, .ireturn, 1), (49, .aload_n 0, 1), (50, .iload_n 1, 1), (51, .iload_n 2, 1), (52, .aload_n 0, 1), (53, .getfield 94, 3), (56, .invokevirtual 100, 3), (59, .istore 4, 2), (61, .aload_n 0, 1), (62, .getfield 51, 3), (65, .bipush 16, 2), (67, .iload_n 1, 1), (68, .imul, 1), (69, .iload_n 2, 1), (70, .iadd, 1), (71, .iaload, 1), (72, .aload_n 0, 1), (73, .getfield 94, 3), (76, .if_icmp .eq 52, 3), (79, .aload_n 0, 1), (80, .getfield 45, 3), (83, .iload 4, 2), (85, .iaload, 1), (86, .aload_n 0, 1), (87, .getfield 20, 3), (90, .iload_n 2, 1), (91, .iaload, 1), (92, .if_icmp .ge 36, 3), (95, .aload_n 0, 1), (96, .getfield 48, 3), (99, .bipush 50, 2), (101, .iload 4, 2), (103, .imul, 1), (104, .aload_n 0, 1), (105, .getfield 45, 3), (108, .iload 4, 2), (110, .iaload, 1), (111, .iadd, 1), (112, .aload_n 0, 1), (113, .getfield 94, 3), (116, .iastore, 1), (117, .aload_n 0, 1), (118, .getfield 45, 3), (121, .iload 4, 2), (123, .dup2, 1), (124, .iaload, 1), (125, .iconst 1, 1), (126, .iadd, 1), (127, .iastore, 1), (128, .aload_n 0, 1), (129, .getfield 51, 3), (132, .bipush 16, 2), (134, .iload_n 1, 1), (135, .imul, 1), (136, .iload_n 2, 1), (137, .iadd, 1), (138, .aload_n 0, 1), (139, .getfield 94, 3), (142, .iastore, 1), (143, .aload_n 0, 1), (144, .getfield 45, 3), (147, .iload 4, 2), (149, .iaload, 1), (150, .ireturn, 1)]
def jK86 : List (Nat × Instr × Nat) := [(0, .aload_n 0, 1), (1, .aload_n 0, 1), (2, .iload_n 1, 1), (3, .iload_n 2, 1), (4, .invokevirtual 120, 3), (7, .ifCond .ne 7, 3), (10, .iconst 1, 1), (11, .goto 4, 3), (14, .iconst 0, 1), (15, .iload_n 3, 1), (16, .iconst 0, 1), (17, .sipush 9999, 3), (20, .invokestatic 78, 3), (23, .ifCond .ne 7, 3), (26, .iconst 1, 1), (27, .goto 4, 3), (30, .iconst 0, 1), (31, .iconst 0, 1), (32, .iconst 0, 1), (33, .invokevirtual 86, 3), (36, .ifCond .eq 5, 3), (39, .iconst 0, 1), (40, .ireturn, 1), (41, .aload_n 0, 1), (42, .iload_n 1, 1), (43, .iload_n 2, 1), (44, .iload_n 3, 1), (45, .invokevirtual 108, 3), (48, .ireturn, 1)]
def jK87 : List (Nat × Instr × Nat) := [(0, .aload_n 0, 1), (1, .aload_n 0, 1), (2, .iload_n 1, 1), (3, .iload_n 2, 1), (4, .invokevirtual 120, 3), (7, .ifCond .ne 7, 3), (10, .iconst 1, 1), (11, .goto 4, 3), (14, .iconst 0, 1), (15, .iconst 0, 1), (16, .iconst 0, 1), (17, .iconst 0, 1), (18, .invokevirtual 86, 3), (21, .ifCond .eq 5, 3), (24, .iconst 0, 1), (25, .ireturn, 1), (26, .aload_n 0, 1), (27, .iload_n 1, 1), (28, .iload_n 2, 1), (29, .aload_n 0, 1), (30, .getfield 94, 3), (33, .invokevirtual 100, 3), (36, .istore_n 3, 1), (37, .iload_n 3, 1), (38, .ifCond .ge 7, 3), (41, .iconst (-1), 1), (42, .goto 12, 3), (45, .aload_n 0, 1), (46, .iload_n 3, 1), (47, .aload_n 0, 1), (48, .getfield 94, 3), (51, .invokevirtual 104, 3), (54, .ireturn, 1)]
def jK88 : List (Nat × Instr × Nat) := [(0, .aload_n 0, 1), (1, .aload_n 0, 1), (2, .iload_n 1, 1), (3, .iload_n 2, 1), (4, .invokevirtual 120, 3), (7, .ifCond .ne 7, 3), (10, .iconst 1, 1), (11, .goto 4, 3), (14, .iconst 0, 1), (15, .iconst 0, 1), (16, .iconst 0, 1), (17, .iconst 0, 1), (18, .invokevirtual 86, 3), (21, .ifCond .eq 5, 3), (24, .iconst 0, 1), (25, .ireturn, 1), (26, .aload_n 0, 1), (27, .iload_n 1, 1), (28, .iload_n 2, 1), (29, .invokevirtual 111, 3), (32, .ireturn, 1)]
def jK89 : List (Nat × Instr × Nat) := [(0, .aload_n 0, 1), (1, .aload_n 0, 1), (2, .iload_n 1, 1), (3, .iload_n 2, 1), (4, .invokevirtual 120, 3), (7, .ifCond .ne 7, 3), (10, .iconst 1, 1), (11, .goto 4, 3), (14, .iconst 0, 1), (15, .iconst 0, 1), (16, .iconst 0, 1), (17, .iconst 0, 1), (18, .invokevirtual 86, 3), (21, .ifCond .eq 5, 3), (24, .iconst 0, 1), (25, .ireturn, 1), (26, .aload_n 0, 1), (27, .iload_n 1, 1), (28, .iload_n 2, 1), (29, .invokevirtual 123, 3), (32, .ireturn, 1)]
def jK90 : List (Nat × Instr × Nat) := [(0, .aload_n 0, 1), (1, .aload_n 0, 1), (2, .iload_n 1, 1), (3, .invokevirtual 82, 3), (6, .ifCond .ne 7, 3), (9, .iconst 1, 1), (10, .goto 4, 3), (13, .iconst 0, 1), (14, .iconst 0, 1), (15, .iconst 0, 1), (16, .iconst 0, 1), (17, .invokevirtual 86, 3), (20, .ifCond .eq 5, 3), (23, .iconst 0, 1), (24, .ireturn, 1), (25, .aload_n 0, 1), (26, .iload_n 1, 1), (27, .invokevirtual 126, 3), (30, .ireturn, 1)]
def jK91 : List (Nat × Instr × Nat) := [(0, .iconst 0, 1), (1, .istore_n 2, 1), (2, .iconst 0, 1), (3, .istore_n 3, 1), (4, .iload_n 3, 1), (5, .bipush 20, 2), (7, .if_icmp .ge 16, 3), (10, .aload_n 0, 1), (11, .getfield 66, 3), (14, .iload_n 3, 1), (15, .iconst (-1), 1), (16, .iastore, 1), (17, .iinc 3 1, 3), (20, .goto (-16), 3), (23, .iconst 0, 1), (24, .istore_n 3, 1), (25, .iload_n 3, 1), (26, .bipush 20, 2), (28, .if_icmp .ge 51, 3), (31, .aload_n 0, 1), (32, .getfield 63, 3), (35, .bipush 20, 2), (37, .iload_n 1, 1), (38, .imul, 1), (39, .iload_n 3, 1), (40, .iadd, 1), (41, .baload, 1), (42, .ifCond .eq 31, 3), (45, .aload_n 0, 1), (46, .iload_n 3, 1), (47, .invokevirtual 134, 3), (50, .ifCond .ge 23, 3), (53, .aload_n 0, 1), (54, .getfield 66, 3), (57, .iload_n 3, 1), (58, .bipush 100, 2), (60, .iload_n 1, 1), (61, .iadd, 1), (62, .iastore, 1), (63, .aload_n 0, 1), (64, .getfield 69, 3), (67, .iload_n 2, 1), (68, .iload_n 3, 1), (69, .iastore, 1), (70, .iinc 2 1, 3), (73, .iinc 3 1, 3), (76, .goto (-51), 3), (79, .iconst 0, 1), (80, .istore_n 3, 1), (81, .iload_n 3, 1), (82, .iload_n 2, 1), (83, .if_icmp .ge 114, 3), (86, .aload_n 0, 1), (87, .getfield 69, 3), (90, .iload_n 3, 1), (91, .iaload, 1), (92, .istore 4, 2), (94, .aload_n 0, 1), (95, .getfield 60, 3), (98, .iload 4, 2), (100, .iaload, 1), (101, .istore 5, 2), (103, .iload 5, 2), (105, .ifCond .ge 12, 3), (108, .aload_n 0, 1), (109, .iload 4, 2), (111, .iload_n 1, 1), (112, .invokevirtual 137, 3), (115, .iconst 1, 1), (116, .ireturn, 1), (117, .iconst 0, 1), (118, .istore 6, 2), (120, .iload 6, 2), (122, .bipush 20, 2), (124, .if_icmp .ge 67, 3), (127, .aload_n 0, 1), (128, .getfield 63, 3), (131, .bipush 20, 2), (133, .iload 5, 2), (135, .imul, 1), (136, .iload 6, 2), (138, .iadd, 1), (139, .baload, 1), (140, .ifCond .eq 45, 3), (143, .aload_n 0, 1), (144, .getfield 66, 3), (147, .iload 6, 2), (149, .iaload, 1), (150, .ifCond .ge 35, 3), (153, .aload_n 0, 1), (154, .iload 6, 2), (156, .invokevirtual 134, 3), (159, .ifCond .ge 26, 3), (162, .aload_n 0, 1), (163, .getfield 66, 3), (166, .iload 6, 2), (168, .bipush 100, 2), (170, .iload 5, 2), (172, .iadd, 1), (173, .iastore, 1), (174, .aload_n 0, 1), (175, .getfield 69, 3), (178, .iload_n 2, 1), (179, .iload 6, 2), (181, .iastore, 1), (182, .iinc 2 1, 3), (185, .iinc 6 1, 3), (188, .goto (-68), 3), (191, .iinc 3 1, 3), (194, .goto (-113), 3), (197, .iconst 0, 1), (198, .ireturn, 1)]
def jK92 : List (Nat × Instr × Nat) := [(0, .iload_n 1, 1), (1, .istore_n 3, 1), (2, .aload_n 0, 1), (3, .getfield 66, 3), (6, .iload_n 3, 1), (7, .iaload, 1), (8, .bipush 100, 2), (10, .isub, 1), (11, .istore 4, 2), (13, .iload 4, 2), (15, .iload_n 2, 1), (16, .if_icmp .eq 36, 3), (19, .aload_n 0, 1), (20, .iload 4, 2), (22, .invokevirtual 141, 3), (25, .istore 5, 2), (27, .aload_n 0, 1), (28, .getfield 60, 3), (31, .iload_n 3, 1), (32, .iload 4, 2), (34, .iastore, 1), (35, .iload 5, 2), (37, .istore_n 3, 1), (38, .aload_n 0, 1), (39, .getfield 66, 3), (42, .iload_n 3, 1), (43, .iaload, 1), (44, .bipush 100, 2), (46, .isub, 1), (47, .istore 4, 2), (49, .goto (-36), 3), (52, .aload_n 0, 1), (53, .getfield 60, 3), (56, .iload_n 3, 1), (57, .iload_n 2, 1), (58, .iastore, 1), (59, .return_, 1)]
def jK93 : List (Nat × Instr × Nat) := [(0, .iconst (-1), 1), (1, .istore_n 2, 1), (2, .iconst 0, 1), (3, .istore_n 3, 1), (4, .iload_n 3, 1), (5, .bipush 20, 2), (7, .if_icmp .ge 25, 3), (10, .aload_n 0, 1), (11, .getfield 60, 3), (14, .iload_n 3, 1), (15, .iaload, 1), (16, .iload_n 1, 1), (17, .if_icmp .ne 7, 3), (20, .iload_n 3, 1), (21, .goto 4, 3), (24, .iload_n 2, 1), (25, .istore_n 2, 1), (26, .iinc 3 1, 3), (29, .goto (-25), 3), (32, .iload_n 2, 1), (33, .ireturn, 1)]
def jK94 : List (Nat × Instr × Nat) := [(0, .iconst (-1), 1), (1, .istore_n 2, 1), (2, .iconst 0, 1), (3, .istore_n 3, 1), (4, .iload_n 3, 1), (5, .bipush 12, 2), (7, .if_icmp .ge 25, 3), (10, .aload_n 0, 1), (11, .getfield 57, 3), (14, .iload_n 3, 1), (15, .iaload, 1), (16, .iload_n 1, 1), (17, .if_icmp .ne 7, 3), (20, .iload_n 3, 1), (21, .goto 4, 3), (24, .iload_n 2, 1), (25, .istore_n 2, 1), (26, .iinc 3 1, 3), (29, .goto (-25), 3), (32, .iload_n 2, 1), (33, .ireturn, 1)]
def jK95 : List (Nat × Instr × Nat) := [(0, .iconst 0, 1), (1, .istore_n 2, 1), (2, .iload_n 2, 1), (3, .bipush 20, 2), (5, .if_icmp .ge 16, 3), (8, .aload_n 0, 1), (9, .getfield 60, 3), (12, .iload_n 2, 1), (13, .iconst (-1), 1), (14, .iastore, 1), (15, .iinc 2 1, 3), (18, .goto (-16), 3), (21, .iconst 0, 1), (22, .istore_n 2, 1), (23, .iload_n 1, 1), (24, .istore_n 3, 1), (25, .iload_n 3, 1), (26, .aload_n 0, 1), (27, .getfield 144, 3), (30, .if_icmp .ge 25, 3), (33, .iload_n 2, 1), (34, .aload_n 0, 1), (35, .iload_n 3, 1), (36, .invokevirtual 147, 3), (39, .ifCond .eq 7, 3), (42, .iconst 1, 1), (43, .goto 4, 3), (46, .iconst 0, 1), (47, .iadd, 1), (48, .istore_n 2, 1), (49, .iinc 3 1, 3), (52, .goto (-27), 3), (55, .iload_n 2, 1), (56, .ireturn, 1)]
def jK96 : List (Nat × Instr × Nat) := [(0, .iconst 0, 1), (1, .istore 5, 2), (3, .iconst 0, 1), (4, .istore 6, 2), (6, .iload 6, 2), (8, .iload_n 3, 1), (9, .if_icmp .ge 45, 3), (12, .iload 6, 2), (14, .bipush 12, 2), (16, .if_icmp .ge 38, 3), (19, .iload 5, 2), (21, .ifCond .ne 20, 3), (24, .aload_n 0, 1), (25, .lload_n 1, 1), (26, .iconst 4, 1), (27, .iload 6, 2), (29, .imul, 1), (30, .lshr, 1), (31, .l2i, 1), (32, .bipush 15, 2), (34, .iand, 1), (35, .invokevirtual 82, 3), (38, .ifCond .ne 7, 3), (41, .iconst 1, 1), (42, .goto 4, 3), (45, .iconst 0, 1), (46, .istore 5, 2), (48, .iinc 6 1, 3), (51, .goto (-45), 3), (54, .aload_n 0, 1), (55, .iload 5, 2), (57, .iload_n 3, 1), (58, .iconst 0, 1), (59, .bipush 12, 2), (61, .invokestatic 78, 3), (64, .ifCond .eq 15, 3), (67, .iload 4, 2), (69, .iconst 0, 1), (70, .sipush 2100, 3), (73, .invokestatic 78, 3), (76, .ifCond .ne 7, 3), (79, .iconst 1, 1), (80, .goto 4, 3), (83, .iconst 0, 1), (84, .iconst 0, 1), (85, .iconst 0, 1), (86, .invokevirtual 86, 3), (89, .ifCond .eq 5, 3), (92, .iconst 0, 1), (93, .ireturn, 1), (94, .aload_n 0, 1), (95, .iload_n 3, 1), (96, .putfield 144, 3), (99, .iconst 0, 1), (100, .istore 6, 2), (102, .iload 6, 2), (104, .bipush 12, 2), (106, .if_icmp .ge 17, 3), (109, .aload_n 0, 1), (110, .getfield 57, 3), (113, .iload 6, 2), (115, .iconst (-1), 1), (116, .iastore, 1), (117, .iinc 6 1, 3), (120, .goto (-18), 3), (123, .iconst 0, 1), (124, .istore 6, 2), (126, .iload 6, 2), (128, .iload_n 3, 1), (129, .if_icmp .ge 100, 3), (132, .lload_n 1, 1), (133, .iconst 4, 1), (134, .iload 6, 2), (136, .imul, 1), (137, .lshr, 1), (138, .l2i, 1), (139, .bipush 15, 2), (141, .iand, 1), (142, .istore 7, 2), (144, .iconst 0, 1), (145, .istore 8, 2), (147, .iload 8, 2), (149, .bipush 20, 2), (151, .if_icmp .ge 72, 3), (154, .aload_n 0, 1), (155, .getfield 63, 3), (158, .bipush 20, 2), (160, .iload 6, 2), (162, .imul, 1), (163, .iload 8, 2), (165, .iadd, 1), (166, .aload_n 0, 1), (167, .iload 8, 2), (169, .iload 7, 2), (171, .aload_n 0, 1), (172, .getfield 94, 3), (175, .invokevirtual 108, 3), (178, .ifCond .eq 37, 3), (181, .aload_n 0, 1), (182, .aload_n 0, 1), (183, .iload 8, 2), (185, .iload 7, 2), (187, .aload_n 0, 1), (188, .getfield 94, 3), (191, .invokevirtual 100, 3), (194, .aload_n 0, 1), (195, .getfield 94, 3), (198, .invokevirtual 104, 3), (201, .aload_n 0, 1), (202, .getfield 94, 3), (205, .isub, 1), (206, .iload 4, 2), (208, .if_icmp .gt 7, 3), (211, .iconst 1, 1), (212, .goto 4, 3), (215, .iconst 0, 1), (216, .bastore, 1), (217, .iinc 8 1, 3), (220, .goto (-73), 3), (223, .iinc 6 1, 3), (226, .goto (-100), 3), (229, .aload_n 0, 1), (230, .iconst 0, 1), (231, .invokevirtual 150, 3), (234, .istore 6, 2), (236, .iload 6, 2), (238, .istore 7, 2), (240, .iconst 0, 1), (241, .istore 8, 2), (243, .iload 8, 2), (245, .iload_n 3, 1), (246, .if_icmp .ge 112, 3), (249, .iconst (-1), 1), (250, .istore 9, 2), (252, .iconst 0, 1), (253, .istore 10, 2), (255, .iload 10, 2), (257, .bipush 20, 2), (259, .if_icmp .ge 78, 3), (262, .iload 9, 2), (264, .ifCond .ge 73, 3), (267, .aload_n 0, 1), (268, .getfield 63, 3), (271, .bipush 20, 2), (273, .iload 8, 2), (275, .imul, 1), (276, .iload 10, 2), (278, .iadd, 1), (279, .baload, 1), (280, .ifCond .eq 51, 3), (283, .aload_n 0, 1), (284, .iload 10, 2), (286, .invokevirtual 134, 3), (289, .ifCond .ge 42, 3), (292, .aload_n 0, 1), (293, .getfield 57, 3), (296, .iload 8, 2), (298, .iload 10, 2), (300, .iastore, 1), (301, .aload_n 0, 1), (302, .iload 8, 2), (304, .iconst 1, 1), (305, .iadd, 1), (306, .invokevirtual 150, 3), (309, .iload 7, 2), (311, .iconst 1, 1), (312, .isub, 1), (313, .if_icmp .ne 10, 3), (316, .iload 10, 2), (318, .istore 9, 2), (320, .goto 11, 3), (323, .aload_n 0, 1), (324, .getfield 57, 3), (327, .iload 8, 2), (329, .iconst (-1), 1), (330, .iastore, 1), (331, .iinc 10 1, 3), (334, .goto (-79), 3), (337, .iload 7, 2), (339, .iload 9, 2), (341, .ifCond .ge 7, 3), (344, .iconst 0, 1), (345, .goto 4, 3), (348, .iconst 1, 1), (349, .isub, 1), (350, .istore 7, 2), (352, .iinc 8 1, 3), (355, .goto (-112), 3), (358, .iconst 0, 1), (359, .istore 8, 2), (361, .iload 8, 2), (363, .bipush 12, 2), (365, .if_icmp .ge 23, 3), (368, .aload_n 0, 1), (369, .getfield 54, 3), (372, .iload 8, 2), (374, .aload_n 0, 1), (375, .getfield 57, 3), (378, .iload 8, 2), (380, .iaload, 1), (381, .iastore, 1), (382, .iinc 8 1, 3), (385, .goto (-24), 3), (388, .iload 6, 2), (390, .ireturn, 1)]
def jK97 : List (Nat × Instr × Nat) := [(0, .aload_n 0, 1), (1, .iload_n 1, 1), (2, .iconst 0, 1), (3, .aload_n 0, 1), (4, .getfield 144, 3), (7, .iconst 1, 1), (8, .isub, 1), (9, .invokestatic 78, 3), (12, .ifCond .ne 7, 3), (15, .iconst 1, 1), (16, .goto 4, 3), (19, .iconst 0, 1), (20, .iconst 0, 1), (21, .iconst 0, 1), (22, .iconst 0, 1), (23, .invokevirtual 86, 3), (26, .ifCond .eq 5, 3), (29, .iconst 0, 1), (30, .ireturn, 1), (31, .aload_n 0, 1), (32, .getfield 54, 3), (35, .iload_n 1, 1), (36, .iaload, 1), (37, .ireturn, 1)]
def jK98 : List (Nat × Instr × Nat) := [(0, .aload_n 0, 1), (1, .aload_n 0, 1), (2, .iload_n 1, 1), (3, .invokevirtual 82, 3), (6, .ifCond .ne 7, 3), (9, .iconst 1, 1), (10, .goto 4, 3), (13, .iconst 0, 1), (14, .iload_n 2, 1), (15, .ifCond .ge 7, 3), (18, .iconst 1, 1), (19, .goto 4, 3), (22, .iconst 0, 1), (23, .iconst 0, 1), (24, .iconst 0, 1), (25, .invokevirtual 86, 3), (28, .ifCond .eq 5, 3), (31, .iconst 0, 1), (32, .ireturn, 1), (33, .iload_n 2, 1), (34, .istore_n 3, 1), (35, .iconst 0, 1), (36, .istore 4, 2), (38, .iload 4, 2), (40, .bipush 20, 2), (42, .if_icmp .ge 61, 3), (45, .aload_n 0, 1), (46, .iload 4, 2), (48, .iload_n 1, 1), (49, .aload_n 0, 1), (50, .getfield 94, 3), (53, .invokevirtual 108, 3), (56, .ifCond .eq 41, 3), (59, .aload_n 0, 1), (60, .aload_n 0, 1), (61, .iload 4, 2), (63, .iload_n 1, 1), (64, .aload_n 0, 1), (65, .getfield 94, 3), (68, .invokevirtual 100, 3), (71, .aload_n 0, 1), (72, .getfield 94, 3), (75, .invokevirtual 104, 3), (78, .aload_n 0, 1), (79, .getfield 94, 3), (82, .iconst 1, 1), (83, .iadd, 1), (84, .if_icmp .ne 13, 3), (87, .iload_n 3, 1), (88, .ifCond .ne 6, 3), (91, .iload 4, 2), (93, .ireturn, 1), (94, .iinc 3 (-1), 3), (97, .iinc 4 1, 3), (100, .goto (-62), 3), (103, .iconst (-1), 1), (104, .ireturn, 1)]
def jK99 : List (Nat × Instr × Nat) := [(0, .aload_n 0, 1), (1, .iload_n 1, 1), (2, .iconst 0, 1), (3, .iconst 3, 1), (4, .invokestatic 78, 3), (7, .ifCond .ne 7, 3), (10, .iconst 1, 1), (11, .goto 4, 3), (14, .iconst 0, 1), (15, .iconst 0, 1), (16, .iconst 0, 1), (17, .iconst 0, 1), (18, .invokevirtual 86, 3), (21, .ifCond .eq 5, 3), (24, .iconst 0, 1), (25, .ireturn, 1), (26, .iconst 0, 1), (27, .istore_n 2, 1), (28, .iconst 0, 1), (29, .istore_n 3, 1), (30, .iload_n 3, 1), (31, .aload_n 0, 1), (32, .getfield 97, 3), (35, .if_icmp .ge 26, 3), (38, .iload_n 2, 1), (39, .aload_n 0, 1), (40, .getfield 42, 3), (43, .iload_n 3, 1), (44, .baload, 1), (45, .ifCond .eq 7, 3), (48, .iconst 1, 1), (49, .goto 4, 3), (52, .iconst 0, 1), (53, .iadd, 1), (54, .istore_n 2, 1), (55, .iinc 3 1, 3), (58, .goto (-28), 3), (61, .iconst 0, 1), (62, .istore_n 3, 1), (63, .iconst 0, 1), (64, .istore 4, 2), (66, .iload 4, 2), (68, .aload_n 0, 1), (69, .getfield 75, 3), (72, .if_icmp .ge 44, 3), (75, .iconst 0, 1), (76, .istore 5, 2), (78, .iload 5, 2), (80, .bipush 20, 2), (82, .if_icmp .ge 28, 3), (85, .iload_n 3, 1), (86, .aload_n 0, 1), (87, .iload 5, 2), (89, .iload 4, 2), (91, .invokevirtual 117, 3), (94, .ifCond .eq 7, 3), (97, .iconst 1, 1), (98, .goto 4, 3), (101, .iconst 0, 1), (102, .iadd, 1), (103, .istore_n 3, 1), (104, .iinc 5 1, 3), (107, .goto (-29), 3), (110, .iinc 4 1, 3), (113, .goto (-47), 3), (116, .iload_n 1, 1), (117, .ifCond .ne 10, 3), (120, .aload_n 0, 1), (121, .getfield 75, 3), (124, .goto 25, 3), (127, .iload_n 1, 1), (128, .iconst 1, 1), (129, .if_icmp .ne 10, 3), (132, .aload_n 0, 1), (133, .getfield 97, 3), (136, .goto 13, 3), (139, .iload_n 1, 1), (140, .iconst 2, 1), (141, .if_icmp .ne 7, 3), (144, .iload_n 2, 1), (145, .goto 4, 3), (148, .iload_n 3, 1), (149, .ireturn, 1)]
def jK100 : List (Nat × Instr × Nat) := [(0, .aload 4, 2), (2, .iconst 0, 1), (3, .aload_n 0, 1), (4, .iload_n 1, 1), (5, .iload_n 2, 1), (6, .iload_n 3, 1), (7, .invokevirtual 7, 3), (10, .i2l, 1), (11, .lastore, 1), (12, .goto 11, 3), (15, .astore 5, 2), (17, .iconst 1, 1), (18, .ireturn, 1), (19, .astore 5, 2), (21, .iconst 2, 1), (22, .ireturn, 1), (23, .iconst 0, 1), (24, .ireturn, 1)]
def jK101 : List (Nat × Instr × Nat) := [(0, .aload_n 0, 1), (1, .iload_n 1, 1), (2, .iload_n 2, 1), (3, .invokevirtual 17, 3), (6, .goto 9, 3), (9, .astore_n 3, 1), (10, .iconst 1, 1), (11, .ireturn, 1), (12, .astore_n 3, 1), (13, .iconst 2, 1), (14, .ireturn, 1), (15, .iconst 0, 1), (16, .ireturn, 1)]
def jK102 : List (Nat × Instr × Nat) := [(0, .aload_n 0, 1), (1, .iload_n 1, 1), (2, .invokevirtual 25, 3), (5, .goto 6, 3), (8, .astore_n 2, 1), (9, .iconst 1, 1), (10, .ireturn, 1), (11, .iconst 0, 1), (12, .ireturn, 1)]
def jK103 : List (Nat × Instr × Nat) := [(0, .aload_n 0, 1), (1, .iload_n 1, 1), (2, .invokevirtual 29, 3), (5, .goto 6, 3), (8, .astore_n 2, 1), (9, .iconst 1, 1), (10, .ireturn, 1), (11, .iconst 0, 1), (12, .ireturn, 1)]
def jK104 : List (Nat × Instr × Nat) := [(0, .aload_n 0, 1), (1, .iload_n 1, 1), (2, .iload_n 2, 1), (3, .invokevirtual 32, 3), (6, .goto 9, 3), (9, .astore_n 3, 1), (10, .iconst 1, 1), (11, .ireturn, 1), (12, .astore_n 3, 1), (13, .iconst 2, 1), (14, .ireturn, 1), (15, .iconst 0, 1), (16, .ireturn, 1)]
def jK105 : List (Nat × Instr × Nat) := [(0, .aload 4, 2), (2, .iconst 0, 1), (3, .aload_n 0, 1), (4, .iload_n 1, 1), (5, .iload_n 2, 1), (6, .iload_n 3, 1), (7, .invokevirtual 35, 3), (10, .i2l, 1), (11, .lastore, 1), (12, .goto 19, 3), (15, .astore 5, 2), (17, .iconst 1, 1), (18, .ireturn, 1), (19, .astore 5, 2), (21, .iconst 2, 1), (22, .ireturn, 1), (23, .astore 5, 2), (25, .iconst 3, 1), (26, .ireturn, 1), (27, .astore 5, 2), (29, .iconst 4, 1), (30, .ireturn, 1), (31, .iconst 0, 1), (32, .ireturn, 1)]
def jK106 : List (Nat × Instr × Nat) := [(0, .aload_n 3, 1), (1, .iconst 0, 1), (2, .aload_n 0, 1), (3, .iload_n 1, 1), (4, .iload_n 2, 1), (5, .invokevirtual 38, 3), (8, .i2l, 1), (9, .lastore, 1), (10, .goto 15, 3), (13, .astore 4, 2), (15, .iconst 1, 1), (16, .ireturn, 1), (17, .astore 4, 2), (19, .iconst 2, 1), (20, .ireturn, 1), (21, .astore 4, 2), (23, .iconst 3, 1), (24, .ireturn, 1), (25, .iconst 0, 1), (26, .ireturn, 1)]
def jK107 : List (Nat × Instr × Nat) := [(0, .aload_n 0, 1), (1, .iload_n 1, 1), (2, .iload_n 2, 1), (3, .iload_n 3, 1), (4, .invokevirtual 42, 3), (7, .goto 11, 3), (10, .astore 4, 2), (12, .iconst 1, 1), (13, .ireturn, 1), (14, .astore 4, 2), (16, .iconst 2, 1), (17, .ireturn, 1), (18, .iconst 0, 1), (19, .ireturn, 1)]
def jK108 : List (Nat × Instr × Nat) := [(0, .aload_n 3, 1), (1, .iconst 0, 1), (2, .aload_n 0, 1), (3, .iload_n 1, 1), (4, .iload_n 2, 1), (5, .invokevirtual 46, 3), (8, .i2l, 1), (9, .lastore, 1), (10, .goto 11, 3), (13, .astore 4, 2), (15, .iconst 1, 1), (16, .ireturn, 1), (17, .astore 4, 2), (19, .iconst 2, 1), (20, .ireturn, 1), (21, .iconst 0, 1), (22, .ireturn, 1)]
def jK109 : List (Nat × Instr × Nat) := [(0, .aload 4, 2), (2, .iconst 0, 1), (3, .aload_n 0, 1), (4, .iload_n 1, 1), (5, .iload_n 2, 1), (6, .iload_n 3, 1), (7, .invokevirtual 49, 3), (10, .ifCond .eq 7, 3), (13, .lconst 1, 1), (14, .goto 4, 3), (17, .lconst 0, 1), (18, .lastore, 1), (19, .goto 11, 3), (22, .astore 5, 2), (24, .iconst 1, 1), (25, .ireturn, 1), (26, .astore 5, 2), (28, .iconst 2, 1), (29, .ireturn, 1), (30, .iconst 0, 1), (31, .ireturn, 1)]
def jK110 : List (Nat × Instr × Nat) := [(0, .aload_n 3, 1), (1, .iconst 0, 1), (2, .aload_n 0, 1), (3, .iload_n 1, 1), (4, .iload_n 2, 1), (5, .invokevirtual 53, 3), (8, .i2l, 1), (9, .lastore, 1), (10, .goto 7, 3), (13, .astore 4, 2), (15, .iconst 1, 1), (16, .ireturn, 1), (17, .iconst 0, 1), (18, .ireturn, 1)]
def jK111 : List (Nat × Instr × Nat) := [(0, .aload_n 3, 1), (1, .iconst 0, 1), (2, .aload_n 0, 1), (3, .iload_n 1, 1), (4, .iload_n 2, 1), (5, .invokevirtual 56, 3), (8, .i2l, 1), (9, .lastore, 1), (10, .goto 7, 3), (13, .astore 4, 2), (15, .iconst 1, 1), (16, .ireturn, 1), (17, .iconst 0, 1), (18, .ireturn, 1)]
def jK112 : List (Nat × Instr × Nat) := [(0, .aload_n 3, 1), (1, .iconst 0, 1), (2, .aload_n 0, 1), (3, .iload_n 1, 1), (4, .iload_n 2, 1), (5, .invokevirtual 59, 3), (8, .i2l, 1), (9, .lastore, 1), (10, .goto 7, 3), (13, .astore 4, 2), (15, .iconst 1, 1), (16, .ireturn, 1), (17, .iconst 0, 1), (18, .ireturn, 1)]
def jK113 : List (Nat × Instr × Nat) := [(0, .aload_n 2, 1), (1, .iconst 0, 1), (2, .aload_n 0, 1), (3, .iload_n 1, 1), (4, .invokevirtual 62, 3), (7, .i2l, 1), (8, .lastore, 1), (9, .goto 6, 3), (12, .astore_n 3, 1), (13, .iconst 1, 1), (14, .ireturn, 1), (15, .iconst 0, 1), (16, .ireturn, 1)]
def jK114 : List (Nat × Instr × Nat) := [(0, .aload 5, 2), (2, .iconst 0, 1), (3, .aload_n 0, 1), (4, .lload_n 1, 1), (5, .iload_n 3, 1), (6, .iload 4, 2), (8, .invokevirtual 66, 3), (11, .i2l, 1), (12, .lastore, 1), (13, .goto 11, 3), (16, .astore 6, 2), (18, .iconst 1, 1), (19, .ireturn, 1), (20, .astore 6, 2), (22, .iconst 2, 1), (23, .ireturn, 1), (24, .iconst 0, 1), (25, .ireturn, 1)]
def jK115 : List (Nat × Instr × Nat) := [(0, .aload_n 2, 1), (1, .iconst 0, 1), (2, .aload_n 0, 1), (3, .iload_n 1, 1), (4, .invokevirtual 70, 3), (7, .i2l, 1), (8, .lastore, 1), (9, .goto 6, 3), (12, .astore_n 3, 1), (13, .iconst 1, 1), (14, .ireturn, 1), (15, .iconst 0, 1), (16, .ireturn, 1)]
def jK116 : List (Nat × Instr × Nat) := [(0, .aload_n 3, 1), (1, .iconst 0, 1), (2, .aload_n 0, 1), (3, .iload_n 1, 1), (4, .iload_n 2, 1), (5, .invokevirtual 73, 3), (8, .i2l, 1), (9, .lastore, 1), (10, .goto 11, 3), (13, .astore 4, 2), (15, .iconst 1, 1), (16, .ireturn, 1), (17, .astore 4, 2), (19, .iconst 2, 1), (20, .ireturn, 1), (21, .iconst 0, 1), (22, .ireturn, 1)]
def jK117 : List (Nat × Instr × Nat) := [(0, .aload_n 2, 1), (1, .iconst 0, 1), (2, .aload_n 0, 1), (3, .iload_n 1, 1), (4, .invokevirtual 76, 3), (7, .i2l, 1), (8, .lastore, 1), (9, .goto 6, 3), (12, .astore_n 3, 1), (13, .iconst 1, 1), (14, .ireturn, 1), (15, .iconst 0, 1), (16, .ireturn, 1)]
def jK118_0 : List (Nat × Instr × Nat) := [(0, .new 8, 3), (3, .dup, 1), (4, .invokespecial 79, 3), (7, .astore_n 1, 1), (8, .new 80, 3), (11, .dup, 1), (12, .invokespecial 82, 3), (15, .astore_n 2, 1), (16, .iconst 1, 1), (17, .newarray .long, 2), (19, .astore_n 3, 1), (20, .iconst 0, 1), (21, .istore 4, 2), (23, .iload 4, 2), (25, .aload_n 0, 1), (26, .arraylength, 1), (27, .iconst 5, 1), (28, .isub, 1), (29, .if_icmp .gt 1280, 3), (32, .aload_n 0, 1), (33, .iload 4, 2), (35, .iaload, 1), (36, .bipush 31, 2), (38, .iand, 1), (39, .tableswitch 1264 0 17 #[85, 165, 213, 249, 285, 333, 413, 481, 557, 625, 712, 780, 848, 916, 972, 1084, 1140, 1208], 85), (124, .aload_n 1, 1), (125, .aload_n 0, 1), (126, .iload 4, 2), (128, .iconst 1, 1), (129, .iadd, 1), (130, .iaload, 1), (131, .aload_n 0, 1), (132, .iload 4, 2), (134, .iconst 2, 1), (135, .iadd, 1), (136, .iaload, 1), (137, .aload_n 0, 1), (138, .iload 4, 2), (140, .iconst 3, 1), (141, .iadd, 1), (142, .iaload, 1), (143, .aload_n 3, 1), (144, .invokestatic 83, 3), (147, .istore 5, 2), (149, .aload_n 2, 1), (150, .aload_n 0, 1), (151, .iload 4, 2), (153, .iconst 1, 1), (154, .iadd, 1), (155, .iaload, 1), (156, .aload_n 0, 1), (157, .iload 4, 2), (159, .iconst 2, 1), (160, .iadd, 1), (161, .iaload, 1), (162, .aload_n 0, 1), (163, .iload 4, 2), (165, .iconst 3, 1), (166, .iadd, 1), (167, .iaload, 1), (168, .invokevirtual 88, 3), (171, .istore 6, 2), (173, .aload_n 2, 1), (174, .invokevirtual 89, 3), (177, .iload 5, 2), (179, .if_icmp .eq 5, 3), (182, .iconst 0, 1), (183, .ireturn, 1), (184, .iload 5, 2), (186, .ifCond .ne 15, 3), (189, .aload_n 3, 1), (190, .iconst 0, 1), (191, .laload, 1), (192, .iload 6, 2), (194, .i2l, 1), (195, .lcmp, 1), (196, .ifCond .eq 5, 3), (199, .iconst 0, 1), (200, .ireturn, 1), (201, .goto 1102, 3), (204, .aload_n 1, 1), (205, .aload_n 0, 1), (206, .iload 4, 2), (208, .iconst 1, 1), (209, .iadd, 1), (210, .iaload, 1), (211, .aload_n 0, 1), (212, .iload 4, 2), (214, .iconst 2, 1), (215, .iadd, 1), (216, .iaload, 1), (217, .invokestatic 93, 3), (220, .istore 5, 2), (222, .aload_n 2, 1), (223, .aload_n 0, 1), (224, .iload 4, 2), (226, .iconst 1, 1), (227, .iadd, 1), (228, .iaload, 1), (229, .aload_n 0, 1)]
def jK118_1 : List (Nat × Instr × Nat) := [(230, .iload 4, 2), (232, .iconst 2, 1), (233, .iadd, 1), (234, .iaload, 1), (235, .invokevirtual 96, 3), (238, .aload_n 2, 1), (239, .invokevirtual 89, 3), (242, .iload 5, 2), (244, .if_icmp .eq 5, 3), (247, .iconst 0, 1), (248, .ireturn, 1), (249, .goto 1054, 3), (252, .aload_n 1, 1), (253, .aload_n 0, 1), (254, .iload 4, 2), (256, .iconst 1, 1), (257, .iadd, 1), (258, .iaload, 1), (259, .invokestatic 97, 3), (262, .istore 5, 2), (264, .aload_n 2, 1), (265, .aload_n 0, 1), (266, .iload 4, 2), (268, .iconst 1, 1), (269, .iadd, 1), (270, .iaload, 1), (271, .invokevirtual 100, 3), (274, .aload_n 2, 1), (275, .invokevirtual 89, 3), (278, .iload 5, 2), (280, .if_icmp .eq 5, 3), (283, .iconst 0, 1), (284, .ireturn, 1), (285, .goto 1018, 3), (288, .aload_n 1, 1), (289, .aload_n 0, 1), (290, .iload 4, 2), (292, .iconst 1, 1), (293, .iadd, 1), (294, .iaload, 1), (295, .invokestatic 101, 3), (298, .istore 5, 2), (300, .aload_n 2, 1), (301, .aload_n 0, 1), (302, .iload 4, 2), (304, .iconst 1, 1), (305, .iadd, 1), (306, .iaload, 1), (307, .invokevirtual 103, 3), (310, .aload_n 2, 1), (311, .invokevirtual 89, 3), (314, .iload 5, 2), (316, .if_icmp .eq 5, 3), (319, .iconst 0, 1), (320, .ireturn, 1), (321, .goto 982, 3), (324, .aload_n 1, 1), (325, .aload_n 0, 1), (326, .iload 4, 2), (328, .iconst 1, 1), (329, .iadd, 1), (330, .iaload, 1), (331, .aload_n 0, 1), (332, .iload 4, 2), (334, .iconst 2, 1), (335, .iadd, 1), (336, .iaload, 1), (337, .invokestatic 104, 3), (340, .istore 5, 2), (342, .aload_n 2, 1), (343, .aload_n 0, 1), (344, .iload 4, 2), (346, .iconst 1, 1), (347, .iadd, 1), (348, .iaload, 1), (349, .aload_n 0, 1), (350, .iload 4, 2), (352, .iconst 2, 1), (353, .iadd, 1), (354, .iaload, 1), (355, .invokevirtual 106, 3), (358, .aload_n 2, 1), (359, .invokevirtual 89, 3), (362, .iload 5, 2), (364, .if_icmp .eq 5, 3), (367, .iconst 0, 1), (368, .ireturn, 1), (369, .goto 934, 3), (372, .aload_n 1, 1), (373, .aload_n 0, 1), (374, .iload 4, 2), (376, .iconst 1, 1), (377, .iadd, 1), (378, .iaload, 1), (379, .aload_n 0, 1), (380, .iload 4, 2), (382, .iconst 2, 1), (383, .iadd, 1), (384, .iaload, 1), (385, .aload_n 0, 1)]
def jK118_2 : List (Nat × Instr × Nat) := [(386, .iload 4, 2), (388, .iconst 3, 1), (389, .iadd, 1), (390, .iaload, 1), (391, .aload_n 3, 1), (392, .invokestatic 107, 3), (395, .istore 5, 2), (397, .aload_n 2, 1), (398, .aload_n 0, 1), (399, .iload 4, 2), (401, .iconst 1, 1), (402, .iadd, 1), (403, .iaload, 1), (404, .aload_n 0, 1), (405, .iload 4, 2), (407, .iconst 2, 1), (408, .iadd, 1), (409, .iaload, 1), (410, .aload_n 0, 1), (411, .iload 4, 2), (413, .iconst 3, 1), (414, .iadd, 1), (415, .iaload, 1), (416, .invokevirtual 109, 3), (419, .istore 6, 2), (421, .aload_n 2, 1), (422, .invokevirtual 89, 3), (425, .iload 5, 2), (427, .if_icmp .eq 5, 3), (430, .iconst 0, 1), (431, .ireturn, 1), (432, .iload 5, 2), (434, .ifCond .ne 15, 3), (437, .aload_n 3, 1), (438, .iconst 0, 1), (439, .laload, 1), (440, .iload 6, 2), (442, .i2l, 1), (443, .lcmp, 1), (444, .ifCond .eq 5, 3), (447, .iconst 0, 1), (448, .ireturn, 1), (449, .goto 854, 3), (452, .aload_n 1, 1), (453, .aload_n 0, 1), (454, .iload 4, 2), (456, .iconst 1, 1), (457, .iadd, 1), (458, .iaload, 1), (459, .aload_n 0, 1), (460, .iload 4, 2), (462, .iconst 2, 1), (463, .iadd, 1), (464, .iaload, 1), (465, .aload_n 3, 1), (466, .invokestatic 110, 3), (469, .istore 5, 2), (471, .aload_n 2, 1), (472, .aload_n 0, 1), (473, .iload 4, 2), (475, .iconst 1, 1), (476, .iadd, 1), (477, .iaload, 1), (478, .aload_n 0, 1), (479, .iload 4, 2), (481, .iconst 2, 1), (482, .iadd, 1), (483, .iaload, 1), (484, .invokevirtual 113, 3), (487, .istore 6, 2), (489, .aload_n 2, 1), (490, .invokevirtual 89, 3), (493, .iload 5, 2), (495, .if_icmp .eq 5, 3), (498, .iconst 0, 1), (499, .ireturn, 1), (500, .iload 5, 2), (502, .ifCond .ne 15, 3), (505, .aload_n 3, 1), (506, .iconst 0, 1), (507, .laload, 1), (508, .iload 6, 2), (510, .i2l, 1), (511, .lcmp, 1), (512, .ifCond .eq 5, 3), (515, .iconst 0, 1), (516, .ireturn, 1), (517, .goto 786, 3), (520, .aload_n 1, 1), (521, .aload_n 0, 1), (522, .iload 4, 2), (524, .iconst 1, 1), (525, .iadd, 1), (526, .iaload, 1), (527, .aload_n 0, 1), (528, .iload 4, 2), (530, .iconst 2, 1), (531, .iadd, 1), (532, .iaload, 1), (533, .aload_n 0, 1)]
def jK118_3 : List (Nat × Instr × Nat) := [(534, .iload 4, 2), (536, .iconst 3, 1), (537, .iadd, 1), (538, .iaload, 1), (539, .ifCond .eq 7, 3), (542, .iconst 1, 1), (543, .goto 4, 3), (546, .iconst 0, 1), (547, .invokestatic 114, 3), (550, .istore 5, 2), (552, .aload_n 2, 1), (553, .aload_n 0, 1), (554, .iload 4, 2), (556, .iconst 1, 1), (557, .iadd, 1), (558, .iaload, 1), (559, .aload_n 0, 1), (560, .iload 4, 2), (562, .iconst 2, 1), (563, .iadd, 1), (564, .iaload, 1), (565, .aload_n 0, 1), (566, .iload 4, 2), (568, .iconst 3, 1), (569, .iadd, 1), (570, .iaload, 1), (571, .ifCond .eq 7, 3), (574, .iconst 1, 1), (575, .goto 4, 3), (578, .iconst 0, 1), (579, .invokevirtual 117, 3), (582, .aload_n 2, 1), (583, .invokevirtual 89, 3), (586, .iload 5, 2), (588, .if_icmp .eq 5, 3), (591, .iconst 0, 1), (592, .ireturn, 1), (593, .goto 710, 3), (596, .aload_n 1, 1), (597, .aload_n 0, 1), (598, .iload 4, 2), (600, .iconst 1, 1), (601, .iadd, 1), (602, .iaload, 1), (603, .aload_n 0, 1), (604, .iload 4, 2), (606, .iconst 2, 1), (607, .iadd, 1), (608, .iaload, 1), (609, .aload_n 3, 1), (610, .invokestatic 118, 3), (613, .istore 5, 2), (615, .aload_n 2, 1), (616, .aload_n 0, 1), (617, .iload 4, 2), (619, .iconst 1, 1), (620, .iadd, 1), (621, .iaload, 1), (622, .aload_n 0, 1), (623, .iload 4, 2), (625, .iconst 2, 1), (626, .iadd, 1), (627, .iaload, 1), (628, .invokevirtual 120, 3), (631, .istore 6, 2), (633, .aload_n 2, 1), (634, .invokevirtual 89, 3), (637, .iload 5, 2), (639, .if_icmp .eq 5, 3), (642, .iconst 0, 1), (643, .ireturn, 1), (644, .iload 5, 2), (646, .ifCond .ne 15, 3), (649, .aload_n 3, 1), (650, .iconst 0, 1), (651, .laload, 1), (652, .iload 6, 2), (654, .i2l, 1), (655, .lcmp, 1), (656, .ifCond .eq 5, 3), (659, .iconst 0, 1), (660, .ireturn, 1), (661, .goto 642, 3), (664, .aload_n 1, 1), (665, .aload_n 0, 1), (666, .iload 4, 2), (668, .iconst 1, 1), (669, .iadd, 1), (670, .iaload, 1), (671, .aload_n 0, 1), (672, .iload 4, 2), (674, .iconst 2, 1), (675, .iadd, 1), (676, .iaload, 1), (677, .aload_n 0, 1), (678, .iload 4, 2), (680, .iconst 3, 1), (681, .iadd, 1), (682, .iaload, 1), (683, .aload_n 3, 1)]
def jK118_4 : List (Nat × Instr × Nat) := [(684, .invokestatic 121, 3), (687, .istore 5, 2), (689, .aload_n 2, 1), (690, .aload_n 0, 1), (691, .iload 4, 2), (693, .iconst 1, 1), (694, .iadd, 1), (695, .iaload, 1), (696, .aload_n 0, 1), (697, .iload 4, 2), (699, .iconst 2, 1), (700, .iadd, 1), (701, .iaload, 1), (702, .aload_n 0, 1), (703, .iload 4, 2), (705, .iconst 3, 1), (706, .iadd, 1), (707, .iaload, 1), (708, .invokevirtual 123, 3), (711, .istore 6, 2), (713, .aload_n 2, 1), (714, .invokevirtual 89, 3), (717, .iload 5, 2), (719, .if_icmp .eq 5, 3), (722, .iconst 0, 1), (723, .ireturn, 1), (724, .iload 5, 2), (726, .ifCond .ne 22, 3), (729, .aload_n 3, 1), (730, .iconst 0, 1), (731, .laload, 1), (732, .iload 6, 2), (734, .ifCond .eq 7, 3), (737, .lconst 1, 1), (738, .goto 4, 3), (741, .lconst 0, 1), (742, .lcmp, 1), (743, .ifCond .eq 5, 3), (746, .iconst 0, 1), (747, .ireturn, 1), (748, .goto 555, 3), (751, .aload_n 1, 1), (752, .aload_n 0, 1), (753, .iload 4, 2), (755, .iconst 1, 1), (756, .iadd, 1), (757, .iaload, 1), (758, .aload_n 0, 1), (759, .iload 4, 2), (761, .iconst 2, 1), (762, .iadd, 1), (763, .iaload, 1), (764, .aload_n 3, 1), (765, .invokestatic 124, 3), (768, .istore 5, 2), (770, .aload_n 2, 1), (771, .aload_n 0, 1), (772, .iload 4, 2), (774, .iconst 1, 1), (775, .iadd, 1), (776, .iaload, 1), (777, .aload_n 0, 1), (778, .iload 4, 2), (780, .iconst 2, 1), (781, .iadd, 1), (782, .iaload, 1), (783, .invokevirtual 126, 3), (786, .istore 6, 2), (788, .aload_n 2, 1), (789, .invokevirtual 89, 3), (792, .iload 5, 2), (794, .if_icmp .eq 5, 3), (797, .iconst 0, 1), (798, .ireturn, 1), (799, .iload 5, 2), (801, .ifCond .ne 15, 3), (804, .aload_n 3, 1), (805, .iconst 0, 1), (806, .laload, 1), (807, .iload 6, 2), (809, .i2l, 1), (810, .lcmp, 1), (811, .ifCond .eq 5, 3), (814, .iconst 0, 1), (815, .ireturn, 1), (816, .goto 487, 3), (819, .aload_n 1, 1), (820, .aload_n 0, 1), (821, .iload 4, 2), (823, .iconst 1, 1), (824, .iadd, 1), (825, .iaload, 1), (826, .aload_n 0, 1), (827, .iload 4, 2), (829, .iconst 2, 1), (830, .iadd, 1), (831, .iaload, 1), (832, .aload_n 3, 1), (833, .invokestatic 127, 3), (836, .istore 5, 2)]
def jK118_5 : List (Nat × Instr × Nat) := [(838, .aload_n 2, 1), (839, .aload_n 0, 1), (840, .iload 4, 2), (842, .iconst 1, 1), (843, .iadd, 1), (844, .iaload, 1), (845, .aload_n 0, 1), (846, .iload 4, 2), (848, .iconst 2, 1), (849, .iadd, 1), (850, .iaload, 1), (851, .invokevirtual 129, 3), (854, .istore 6, 2), (856, .aload_n 2, 1), (857, .invokevirtual 89, 3), (860, .iload 5, 2), (862, .if_icmp .eq 5, 3), (865, .iconst 0, 1), (866, .ireturn, 1), (867, .iload 5, 2), (869, .ifCond .ne 15, 3), (872, .aload_n 3, 1), (873, .iconst 0, 1), (874, .laload, 1), (875, .iload 6, 2), (877, .i2l, 1), (878, .lcmp, 1), (879, .ifCond .eq 5, 3), (882, .iconst 0, 1), (883, .ireturn, 1), (884, .goto 419, 3), (887, .aload_n 1, 1), (888, .aload_n 0, 1), (889, .iload 4, 2), (891, .iconst 1, 1), (892, .iadd, 1), (893, .iaload, 1), (894, .aload_n 0, 1), (895, .iload 4, 2), (897, .iconst 2, 1), (898, .iadd, 1), (899, .iaload, 1), (900, .aload_n 3, 1), (901, .invokestatic 130, 3), (904, .istore 5, 2), (906, .aload_n 2, 1), (907, .aload_n 0, 1), (908, .iload 4, 2), (910, .iconst 1, 1), (911, .iadd, 1), (912, .iaload, 1), (913, .aload_n 0, 1), (914, .iload 4, 2), (916, .iconst 2, 1), (917, .iadd, 1), (918, .iaload, 1), (919, .invokevirtual 132, 3), (922, .istore 6, 2), (924, .aload_n 2, 1), (925, .invokevirtual 89, 3), (928, .iload 5, 2), (930, .if_icmp .eq 5, 3), (933, .iconst 0, 1), (934, .ireturn, 1), (935, .iload 5, 2), (937, .ifCond .ne 15, 3), (940, .aload_n 3, 1), (941, .iconst 0, 1), (942, .laload, 1), (943, .iload 6, 2), (945, .i2l, 1), (946, .lcmp, 1), (947, .ifCond .eq 5, 3), (950, .iconst 0, 1), (951, .ireturn, 1), (952, .goto 351, 3), (955, .aload_n 1, 1), (956, .aload_n 0, 1), (957, .iload 4, 2), (959, .iconst 1, 1), (960, .iadd, 1), (961, .iaload, 1), (962, .aload_n 3, 1), (963, .invokestatic 133, 3), (966, .istore 5, 2), (968, .aload_n 2, 1), (969, .aload_n 0, 1), (970, .iload 4, 2), (972, .iconst 1, 1), (973, .iadd, 1), (974, .iaload, 1), (975, .invokevirtual 136, 3), (978, .istore 6, 2), (980, .aload_n 2, 1), (981, .invokevirtual 89, 3), (984, .iload 5, 2), (986, .if_icmp .eq 5, 3), (989, .iconst 0, 1), (990, .ireturn, 1), (991, .iload 5, 2)]
def jK118_6 : List (Nat × Instr × Nat) := [(993, .ifCond .ne 15, 3), (996, .aload_n 3, 1), (997, .iconst 0, 1), (998, .laload, 1), (999, .iload 6, 2), (1001, .i2l, 1), (1002, .lcmp, 1), (1003, .ifCond .eq 5, 3), (1006, .iconst 0, 1), (1007, .ireturn, 1), (1008, .goto 295, 3), (1011, .aload_n 1, 1), (1012, .aload_n 0, 1), (1013, .iload 4, 2), (1015, .iconst 1, 1), (1016, .iadd, 1), (1017, .iaload, 1), (1018, .i2l, 1), (1019, .bipush 32, 2), (1021, .lshl, 1), (1022, .aload_n 0, 1), (1023, .iload 4, 2), (1025, .iconst 2, 1), (1026, .iadd, 1), (1027, .iaload, 1), (1028, .i2l, 1), (1029, .ldc2_w 137, 3), (1032, .land, 1), (1033, .lor, 1), (1034, .aload_n 0, 1), (1035, .iload 4, 2), (1037, .iconst 3, 1), (1038, .iadd, 1), (1039, .iaload, 1), (1040, .aload_n 0, 1), (1041, .iload 4, 2), (1043, .iconst 4, 1), (1044, .iadd, 1), (1045, .iaload, 1), (1046, .aload_n 3, 1), (1047, .invokestatic 139, 3), (1050, .istore 5, 2), (1052, .aload_n 2, 1), (1053, .aload_n 0, 1), (1054, .iload 4, 2), (1056, .iconst 1, 1), (1057, .iadd, 1), (1058, .iaload, 1), (1059, .i2l, 1), (1060, .bipush 32, 2), (1062, .lshl, 1), (1063, .aload_n 0, 1), (1064, .iload 4, 2), (1066, .iconst 2, 1), (1067, .iadd, 1), (1068, .iaload, 1), (1069, .i2l, 1), (1070, .ldc2_w 137, 3), (1073, .land, 1), (1074, .lor, 1), (1075, .aload_n 0, 1), (1076, .iload 4, 2), (1078, .iconst 3, 1), (1079, .iadd, 1), (1080, .iaload, 1), (1081, .aload_n 0, 1), (1082, .iload 4, 2), (1084, .iconst 4, 1), (1085, .iadd, 1), (1086, .iaload, 1), (1087, .invokevirtual 142, 3), (1090, .istore 6, 2), (1092, .aload_n 2, 1), (1093, .invokevirtual 89, 3), (1096, .iload 5, 2), (1098, .if_icmp .eq 5, 3), (1101, .iconst 0, 1), (1102, .ireturn, 1), (1103, .iload 5, 2), (1105, .ifCond .ne 15, 3), (1108, .aload_n 3, 1), (1109, .iconst 0, 1), (1110, .laload, 1), (1111, .iload 6, 2), (1113, .i2l, 1), (1114, .lcmp, 1), (1115, .ifCond .eq 5, 3), (1118, .iconst 0, 1), (1119, .ireturn, 1), (1120, .goto 183, 3), (1123, .aload_n 1, 1), (1124, .aload_n 0, 1), (1125, .iload 4, 2), (1127, .iconst 1, 1), (1128, .iadd, 1), (1129, .iaload, 1), (1130, .aload_n 3, 1), (1131, .invokestatic 143, 3), (1134, .istore 5, 2), (1136, .aload_n 2, 1)]
def jK118_7 : List (Nat × Instr × Nat) := [(1137, .aload_n 0, 1), (1138, .iload 4, 2), (1140, .iconst 1, 1), (1141, .iadd, 1), (1142, .iaload, 1), (1143, .invokevirtual 145, 3), (1146, .istore 6, 2), (1148, .aload_n 2, 1), (1149, .invokevirtual 89, 3), (1152, .iload 5, 2), (1154, .if_icmp .eq 5, 3), (1157, .iconst 0, 1), (1158, .ireturn, 1), (1159, .iload 5, 2), (1161, .ifCond .ne 15, 3), (1164, .aload_n 3, 1), (1165, .iconst 0, 1), (1166, .laload, 1), (1167, .iload 6, 2), (1169, .i2l, 1), (1170, .lcmp, 1), (1171, .ifCond .eq 5, 3), (1174, .iconst 0, 1), (1175, .ireturn, 1), (1176, .goto 127, 3), (1179, .aload_n 1, 1), (1180, .aload_n 0, 1), (1181, .iload 4, 2), (1183, .iconst 1, 1), (1184, .iadd, 1), (1185, .iaload, 1), (1186, .aload_n 0, 1), (1187, .iload 4, 2), (1189, .iconst 2, 1), (1190, .iadd, 1), (1191, .iaload, 1), (1192, .aload_n 3, 1), (1193, .invokestatic 146, 3), (1196, .istore 5, 2), (1198, .aload_n 2, 1), (1199, .aload_n 0, 1), (1200, .iload 4, 2), (1202, .iconst 1, 1), (1203, .iadd, 1), (1204, .iaload, 1), (1205, .aload_n 0, 1), (1206, .iload 4, 2), (1208, .iconst 2, 1), (1209, .iadd, 1), (1210, .iaload, 1), (1211, .invokevirtual 148, 3), (1214, .istore 6, 2), (1216, .aload_n 2, 1), (1217, .invokevirtual 89, 3), (1220, .iload 5, 2), (1222, .if_icmp .eq 5, 3), (1225, .iconst 0, 1), (1226, .ireturn, 1), (1227, .iload 5, 2), (1229, .ifCond .ne 15, 3), (1232, .aload_n 3, 1), (1233, .iconst 0, 1), (1234, .laload, 1), (1235, .iload 6, 2), (1237, .i2l, 1), (1238, .lcmp, 1), (1239, .ifCond .eq 5, 3), (1242, .iconst 0, 1), (1243, .ireturn, 1), (1244, .goto 59, 3), (1247, .aload_n 1, 1), (1248, .aload_n 0, 1), (1249, .iload 4, 2), (1251, .iconst 1, 1), (1252, .iadd, 1), (1253, .iaload, 1), (1254, .aload_n 3, 1), (1255, .invokestatic 149, 3), (1258, .istore 5, 2), (1260, .aload_n 2, 1), (1261, .aload_n 0, 1), (1262, .iload 4, 2), (1264, .iconst 1, 1), (1265, .iadd, 1), (1266, .iaload, 1), (1267, .invokevirtual 151, 3), (1270, .istore 6, 2), (1272, .aload_n 2, 1), (1273, .invokevirtual 89, 3), (1276, .iload 5, 2), (1278, .if_icmp .eq 5, 3), (1281, .iconst 0, 1), (1282, .ireturn, 1), (1283, .iload 5, 2), (1285, .ifCond .ne 15, 3), (1288, .aload_n 3, 1), (1289, .iconst 0, 1), (1290, .laload, 1), (1291, .iload 6, 2), (1293, .i2l, 1)]
def jK118_8 : List (Nat × Instr × Nat) := [(1294, .lcmp, 1), (1295, .ifCond .eq 5, 3), (1298, .iconst 0, 1), (1299, .ireturn, 1), (1300, .goto 3, 3), (1303, .iinc 4 5, 3), (1306, .goto (-1283), 3), (1309, .iconst 1, 1), (1310, .ireturn, 1)]
def jK118 : List (Nat × Instr × Nat) := jK118_0 ++ jK118_1 ++ jK118_2 ++ jK118_3 ++ jK118_4 ++ jK118_5 ++ jK118_6 ++ jK118_7 ++ jK118_8
def jKs : List (List (Nat × Instr × Nat)) := [jK0, jK1, jK2, jK3, jK4, jK5, jK6, jK7, jK8, jK9, jK10, jK11, jK12, jK13, jK14, jK15, jK16, jK17, jK18, jK19, jK20, jK21, jK22, jK23, jK24, jK25, jK26, jK27, jK28, jK29, jK30, jK31, jK32, jK33, jK34, jK35, jK36, jK37, jK38, jK39, jK40, jK41, jK42, jK43, jK44, jK45, jK46, jK47, jK48, jK49, jK50, jK51, jK52, jK53, jK54, jK55, jK56, jK57, jK58, jK59, jK60, jK61, jK62, jK63, jK64, jK65, jK66, jK67, jK68, jK69, jK70, jK71, jK72, jK73, jK74, jK75, jK76, jK77, jK78, jK79, jK80, jK81, jK82, jK83, jK84, jK85, jK86, jK87, jK88, jK89, jK90, jK91, jK92, jK93, jK94, jK95, jK96, jK97, jK98, jK99, jK100, jK101, jK102, jK103, jK104, jK105, jK106, jK107, jK108, jK109, jK110, jK111, jK112, jK113, jK114, jK115, jK116, jK117, jK118]
end
section
theorem jD0 : ∀ q ∈ jK0, decode prog_16_method_103_code q.1 = .ok q.2 := by decide +kernel
theorem jD1 : ∀ q ∈ jK1, decode prog_11_method_65_code q.1 = .ok q.2 := by decide +kernel
theorem jD2 : ∀ q ∈ jK2, decode prog_11_method_69_code q.1 = .ok q.2 := by decide +kernel
theorem jD3 : ∀ q ∈ jK3, decode prog_2_method_1_code q.1 = .ok q.2 := by decide +kernel
theorem jD4 : ∀ q ∈ jK4, decode prog_2_method_2_code q.1 = .ok q.2 := by decide +kernel
theorem jD5 : ∀ q ∈ jK5, decode prog_2_method_3_code q.1 = .ok q.2 := by decide +kernel
theorem jD6 : ∀ q ∈ jK6, decode prog_2_method_4_code q.1 = .ok q.2 := by decide +kernel
theorem jD7 : ∀ q ∈ jK7, decode prog_2_method_5_code q.1 = .ok q.2 := by decide +kernel
theorem jD8 : ∀ q ∈ jK8, decode prog_2_method_6_code q.1 = .ok q.2 := by decide +kernel
theorem jD9 : ∀ q ∈ jK9, decode prog_2_method_7_code q.1 = .ok q.2 := by decide +kernel
theorem jD10 : ∀ q ∈ jK10, decode prog_3_method_1_code q.1 = .ok q.2 := by decide +kernel
theorem jD11 : ∀ q ∈ jK11, decode prog_3_method_2_code q.1 = .ok q.2 := by decide +kernel
theorem jD12 : ∀ q ∈ jK12, decode prog_3_method_3_code q.1 = .ok q.2 := by decide +kernel
theorem jD13 : ∀ q ∈ jK13, decode prog_3_method_4_code q.1 = .ok q.2 := by decide +kernel
theorem jD14 : ∀ q ∈ jK14, decode prog_3_method_5_code q.1 = .ok q.2 := by decide +kernel
theorem jD15 : ∀ q ∈ jK15, decode prog_4_method_1_code q.1 = .ok q.2 := by decide +kernel
theorem jD16 : ∀ q ∈ jK16, decode prog_4_method_2_code q.1 = .ok q.2 := by decide +kernel
theorem jD17 : ∀ q ∈ jK17, decode prog_4_method_3_code q.1 = .ok q.2 := by decide +kernel
theorem jD18 : ∀ q ∈ jK18, decode prog_4_method_4_code q.1 = .ok q.2 := by decide +kernel
theorem jD19 : ∀ q ∈ jK19, decode prog_4_method_5_code q.1 = .ok q.2 := by decide +kernel
theorem jD20 : ∀ q ∈ jK20, decode prog_4_method_6_code q.1 = .ok q.2 := by decide +kernel
theorem jD21 : ∀ q ∈ jK21, decode prog_4_method_7_code q.1 = .ok q.2 := by decide +kernel
theorem jD22 : ∀ q ∈ jK22, decode prog_4_method_8_code q.1 = .ok q.2 := by decide +kernel
theorem jD23 : ∀ q ∈ jK23, decode prog_4_method_9_code q.1 = .ok q.2 := by decide +kernel
theorem jD24 : ∀ q ∈ jK24, decode prog_4_method_10_code q.1 = .ok q.2 := by decide +kernel
theorem jD25 : ∀ q ∈ jK25, decode prog_1_method_1_code q.1 = .ok q.2 := by decide +kernel
theorem jD26 : ∀ q ∈ jK26, decode prog_1_method_2_code q.1 = .ok q.2 := by decide +kernel
theorem jD27 : ∀ q ∈ jK27, decode prog_1_method_3_code q.1 = .ok q.2 := by decide +kernel
theorem jD28 : ∀ q ∈ jK28, decode prog_1_method_4_code q.1 = .ok q.2 := by decide +kernel
theorem jD29 : ∀ q ∈ jK29, decode prog_1_method_5_code q.1 = .ok q.2 := by decide +kernel
theorem jD30 : ∀ q ∈ jK30, decode prog_1_method_6_code q.1 = .ok q.2 := by decide +kernel
theorem jD31 : ∀ q ∈ jK31, decode prog_1_method_7_code q.1 = .ok q.2 := by decide +kernel
theorem jD32 : ∀ q ∈ jK32, decode prog_1_method_8_code q.1 = .ok q.2 := by decide +kernel
theorem jD33 : ∀ q ∈ jK33, decode prog_1_method_9_code q.1 = .ok q.2 := by decide +kernel
theorem jD34 : ∀ q ∈ jK34, decode prog_1_method_10_code q.1 = .ok q.2 := by decide +kernel
theorem jD35 : ∀ q ∈ jK35, decode prog_1_method_11_code q.1 = .ok q.2 := by decide +kernel
theorem jD36 : ∀ q ∈ jK36, decode prog_1_method_12_code q.1 = .ok q.2 := by decide +kernel
theorem jD37 : ∀ q ∈ jK37, decode prog_1_method_13_code q.1 = .ok q.2 := by decide +kernel
theorem jD38 : ∀ q ∈ jK38, decode prog_1_method_14_code q.1 = .ok q.2 := by decide +kernel
theorem jD39 : ∀ q ∈ jK39, decode prog_1_method_15_code q.1 = .ok q.2 := by decide +kernel
theorem jD40 : ∀ q ∈ jK40, decode prog_1_method_16_code q.1 = .ok q.2 := by decide +kernel
theorem jD41 : ∀ q ∈ jK41, decode prog_1_method_17_code q.1 = .ok q.2 := by decide +kernel
theorem jD42 : ∀ q ∈ jK42, decode prog_1_method_18_code q.1 = .ok q.2 := by decide +kernel
theorem jD43 : ∀ q ∈ jK43, decode prog_1_method_19_code q.1 = .ok q.2 := by decide +kernel
theorem jD44 : ∀ q ∈ jK44, decode prog_1_method_20_code q.1 = .ok q.2 := by decide +kernel
theorem jD45 : ∀ q ∈ jK45, decode prog_1_method_21_code q.1 = .ok q.2 := by decide +kernel
theorem jD46 : ∀ q ∈ jK46, decode prog_1_method_22_code q.1 = .ok q.2 := by decide +kernel
theorem jD47 : ∀ q ∈ jK47, decode prog_1_method_23_code q.1 = .ok q.2 := by decide +kernel
theorem jD48 : ∀ q ∈ jK48, decode prog_1_method_24_code q.1 = .ok q.2 := by decide +kernel
theorem jD49 : ∀ q ∈ jK49, decode prog_1_method_25_code q.1 = .ok q.2 := by decide +kernel
theorem jD50 : ∀ q ∈ jK50, decode prog_1_method_26_code q.1 = .ok q.2 := by decide +kernel
theorem jD51 : ∀ q ∈ jK51, decode prog_1_method_27_code q.1 = .ok q.2 := by decide +kernel
theorem jD52 : ∀ q ∈ jK52, decode prog_1_method_28_code q.1 = .ok q.2 := by decide +kernel
theorem jD53 : ∀ q ∈ jK53, decode prog_1_method_29_code q.1 = .ok q.2 := by decide +kernel
theorem jD54 : ∀ q ∈ jK54, decode prog_1_method_30_code q.1 = .ok q.2 := by decide +kernel
theorem jD55 : ∀ q ∈ jK55, decode prog_1_method_31_code q.1 = .ok q.2 := by decide +kernel
theorem jD56 : ∀ q ∈ jK56, decode prog_1_method_32_code q.1 = .ok q.2 := by decide +kernel
theorem jD57 : ∀ q ∈ jK57, decode prog_1_method_33_code q.1 = .ok q.2 := by decide +kernel
theorem jD58 : ∀ q ∈ jK58, decode prog_1_method_34_code q.1 = .ok q.2 := by decide +kernel
theorem jD59 : ∀ q ∈ jK59, decode prog_1_method_35_code q.1 = .ok q.2 := by decide +kernel
theorem jD60 : ∀ q ∈ jK60, decode prog_1_method_36_code q.1 = .ok q.2 := by decide +kernel
theorem jD61 : ∀ q ∈ jK61, decode prog_6_method_1_code q.1 = .ok q.2 := by decide +kernel
theorem jD62 : ∀ q ∈ jK62, decode prog_6_method_2_code q.1 = .ok q.2 := by decide +kernel
theorem jD63 : ∀ q ∈ jK63, decode prog_6_method_3_code q.1 = .ok q.2 := by decide +kernel
theorem jD64 : ∀ q ∈ jK64, decode prog_6_method_4_code q.1 = .ok q.2 := by decide +kernel
theorem jD65 : ∀ q ∈ jK65, decode prog_6_method_5_code q.1 = .ok q.2 := by decide +kernel
theorem jD66 : ∀ q ∈ jK66, decode prog_6_method_6_code q.1 = .ok q.2 := by decide +kernel
theorem jD67 : ∀ q ∈ jK67, decode prog_6_method_7_code q.1 = .ok q.2 := by decide +kernel
theorem jD68 : ∀ q ∈ jK68, decode prog_6_method_8_code q.1 = .ok q.2 := by decide +kernel
theorem jD69 : ∀ q ∈ jK69, decode prog_6_method_9_code q.1 = .ok q.2 := by decide +kernel
theorem jD70 : ∀ q ∈ jK70, decode prog_6_method_10_code q.1 = .ok q.2 := by decide +kernel
theorem jD71 : ∀ q ∈ jK71, decode prog_6_method_11_code q.1 = .ok q.2 := by decide +kernel
theorem jD72 : ∀ q ∈ jK72, decode prog_6_method_12_code q.1 = .ok q.2 := by decide +kernel
theorem jD73 : ∀ q ∈ jK73, decode prog_6_method_13_code q.1 = .ok q.2 := by decide +kernel
theorem jD74 : ∀ q ∈ jK74, decode prog_6_method_14_code q.1 = .ok q.2 := by decide +kernel
theorem jD75 : ∀ q ∈ jK75, decode prog_6_method_15_code q.1 = .ok q.2 := by decide +kernel
theorem jD76 : ∀ q ∈ jK76, decode prog_6_method_16_code q.1 = .ok q.2 := by decide +kernel
theorem jD77 : ∀ q ∈ jK77, decode prog_6_method_17_code q.1 = .ok q.2 := by decide +kernel
theorem jD78 : ∀ q ∈ jK78, decode prog_6_method_18_code q.1 = .ok q.2 := by decide +kernel
theorem jD79 : ∀ q ∈ jK79, decode prog_6_method_19_code q.1 = .ok q.2 := by decide +kernel
theorem jD80 : ∀ q ∈ jK80, decode prog_6_method_20_code q.1 = .ok q.2 := by decide +kernel
theorem jD81 : ∀ q ∈ jK81, decode prog_6_method_21_code q.1 = .ok q.2 := by decide +kernel
theorem jD82 : ∀ q ∈ jK82, decode prog_6_method_22_code q.1 = .ok q.2 := by decide +kernel
theorem jD83 : ∀ q ∈ jK83, decode prog_6_method_23_code q.1 = .ok q.2 := by decide +kernel
theorem jD84 : ∀ q ∈ jK84, decode prog_6_method_24_code q.1 = .ok q.2 := by decide +kernel
theorem jD85 : ∀ q ∈ jK85, decode prog_6_method_25_code q.1 = .ok q.2 := by decide +kernel
theorem jD86 : ∀ q ∈ jK86, decode prog_6_method_26_code q.1 = .ok q.2 := by decide +kernel
theorem jD87 : ∀ q ∈ jK87, decode prog_6_method_27_code q.1 = .ok q.2 := by decide +kernel
theorem jD88 : ∀ q ∈ jK88, decode prog_6_method_28_code q.1 = .ok q.2 := by decide +kernel
theorem jD89 : ∀ q ∈ jK89, decode prog_6_method_29_code q.1 = .ok q.2 := by decide +kernel
theorem jD90 : ∀ q ∈ jK90, decode prog_6_method_30_code q.1 = .ok q.2 := by decide +kernel
theorem jD91 : ∀ q ∈ jK91, decode prog_6_method_31_code q.1 = .ok q.2 := by decide +kernel
theorem jD92 : ∀ q ∈ jK92, decode prog_6_method_32_code q.1 = .ok q.2 := by decide +kernel
theorem jD93 : ∀ q ∈ jK93, decode prog_6_method_33_code q.1 = .ok q.2 := by decide +kernel
theorem jD94 : ∀ q ∈ jK94, decode prog_6_method_34_code q.1 = .ok q.2 := by decide +kernel
theorem jD95 : ∀ q ∈ jK95, decode prog_6_method_35_code q.1 = .ok q.2 := by decide +kernel
theorem jD96 : ∀ q ∈ jK96, decode prog_6_method_36_code q.1 = .ok q.2 := by decide +kernel
theorem jD97 : ∀ q ∈ jK97, decode prog_6_method_37_code q.1 = .ok q.2 := by decide +kernel
theorem jD98 : ∀ q ∈ jK98, decode prog_6_method_38_code q.1 = .ok q.2 := by decide +kernel
theorem jD99 : ∀ q ∈ jK99, decode prog_6_method_39_code q.1 = .ok q.2 := by decide +kernel
theorem jD100 : ∀ q ∈ jK100, decode method_3_code q.1 = .ok q.2 := by decide +kernel
theorem jD101 : ∀ q ∈ jK101, decode method_4_code q.1 = .ok q.2 := by decide +kernel
theorem jD102 : ∀ q ∈ jK102, decode method_5_code q.1 = .ok q.2 := by decide +kernel
theorem jD103 : ∀ q ∈ jK103, decode method_6_code q.1 = .ok q.2 := by decide +kernel
theorem jD104 : ∀ q ∈ jK104, decode method_7_code q.1 = .ok q.2 := by decide +kernel
theorem jD105 : ∀ q ∈ jK105, decode method_8_code q.1 = .ok q.2 := by decide +kernel
theorem jD106 : ∀ q ∈ jK106, decode method_9_code q.1 = .ok q.2 := by decide +kernel
theorem jD107 : ∀ q ∈ jK107, decode method_10_code q.1 = .ok q.2 := by decide +kernel
theorem jD108 : ∀ q ∈ jK108, decode method_11_code q.1 = .ok q.2 := by decide +kernel
theorem jD109 : ∀ q ∈ jK109, decode method_12_code q.1 = .ok q.2 := by decide +kernel
theorem jD110 : ∀ q ∈ jK110, decode method_13_code q.1 = .ok q.2 := by decide +kernel
theorem jD111 : ∀ q ∈ jK111, decode method_14_code q.1 = .ok q.2 := by decide +kernel
theorem jD112 : ∀ q ∈ jK112, decode method_15_code q.1 = .ok q.2 := by decide +kernel
theorem jD113 : ∀ q ∈ jK113, decode method_16_code q.1 = .ok q.2 := by decide +kernel
theorem jD114 : ∀ q ∈ jK114, decode method_17_code q.1 = .ok q.2 := by decide +kernel
theorem jD115 : ∀ q ∈ jK115, decode method_18_code q.1 = .ok q.2 := by decide +kernel
theorem jD116 : ∀ q ∈ jK116, decode method_19_code q.1 = .ok q.2 := by decide +kernel
theorem jD117 : ∀ q ∈ jK117, decode method_20_code q.1 = .ok q.2 := by decide +kernel
theorem jD118_0 : ∀ q ∈ jK118_0, decode code q.1 = .ok q.2 := by decide +kernel
theorem jD118_1 : ∀ q ∈ jK118_1, decode code q.1 = .ok q.2 := by decide +kernel
theorem jD118_2 : ∀ q ∈ jK118_2, decode code q.1 = .ok q.2 := by decide +kernel
theorem jD118_3 : ∀ q ∈ jK118_3, decode code q.1 = .ok q.2 := by decide +kernel
theorem jD118_4 : ∀ q ∈ jK118_4, decode code q.1 = .ok q.2 := by decide +kernel
theorem jD118_5 : ∀ q ∈ jK118_5, decode code q.1 = .ok q.2 := by decide +kernel
theorem jD118_6 : ∀ q ∈ jK118_6, decode code q.1 = .ok q.2 := by decide +kernel
theorem jD118_7 : ∀ q ∈ jK118_7, decode code q.1 = .ok q.2 := by decide +kernel
theorem jD118_8 : ∀ q ∈ jK118_8, decode code q.1 = .ok q.2 := by decide +kernel
theorem jD118 : ∀ q ∈ jK118, decode code q.1 = .ok q.2 := fun q h => (List.mem_append.mp h).elim (fun h => (List.mem_append.mp h).elim (fun h => (List.mem_append.mp h).elim (fun h => (List.mem_append.mp h).elim (fun h => (List.mem_append.mp h).elim (fun h => (List.mem_append.mp h).elim (fun h => (List.mem_append.mp h).elim (fun h => (List.mem_append.mp h).elim (fun h => jD118_0 q h) (jD118_1 q)) (jD118_2 q)) (jD118_3 q)) (jD118_4 q)) (jD118_5 q)) (jD118_6 q)) (jD118_7 q)) (jD118_8 q)
end
section
def jn (i : Nat) : MethodName := jN.getD i ⟨"", "", ""⟩
def jb (i : Nat) : ByteArray := jB.getD i ⟨#[]⟩
def jl (i : Nat) : Nat := jL.getD i 0
def jr (i : Nat) : Option FieldType := jRt.getD i none
def jh (i : Nat) : List (Nat × Nat × Nat × Nat) := jHs.getD i []
def jo (i : Nat) : Nat := jCs.getD i 99
def jp (i : Nat) : Nat := jPs.getD i 0
def jm (i : Nat) : Room := jMr.getD i { frames := 0, cells := 0, slots := 0, locals := 0 }
def jrc (i : Nat) : Nat := (jRr.getD i (0, 0)).1
def jrs (i : Nat) : Nat := (jRr.getD i (0, 0)).2
def jcode (i pc : Nat) : Option (Instr × Nat) := ((jKs.getD i []).find? (fun q => q.1 == pc)).map (fun q => q.2)
def jfld (i x : Nat) : Option (Nat × Nat) := (jFL.find? (fun q => q.1 == (jo i, x))).map (fun q => q.2)
def jcal (i x : Nat) : Option (Nat × Nat) := (jCL.find? (fun q => q.1 == (jo i, x))).map (fun q => q.2)
def jnew (i x : Nat) : Option Nat := (jNL.find? (fun q => q.1 == (jo i, x))).map (fun q => q.2)
def jobj (i x : Nat) : Bool := jIL.contains (jo i, x)
def jthr (i pc : Nat) : Option (Nat × Nat × Nat × String × String) := (jXL.find? (fun q => q.1 == (i, pc))).map (fun q => q.2)
/-- the handler of a thrown class, by its exact name -/
def jhan (i pc : Nat) (X : String) : Option Nat := ((jHC.getD i []).find? (fun q => q.1 ≤ pc && pc < q.2.1 && q.2.2.2 == X)).map (fun q => q.2.2.1)
/-- the word of a method's code -/
def jcw (i : Nat) : Cond := if (jh i).isEmpty then .code (jn i) (jb i) (jl i) (jr i) else .codeWith (jn i) (jb i) (jl i) (jr i) (jh i)
/-- all good words -/
def jGW : List Cond := lw_tbl.filter goodWord
theorem jGW_of {w : Cond} (h1 : w ∈ lw_tbl) (h2 : goodWord w = true) : w ∈ jGW := List.mem_filter.mpr ⟨h1, h2⟩
theorem jGW_good : GoodIn lw_tbl jGW := fun w h => ⟨(List.mem_filter.mp h).1, good_of_word (List.mem_filter.mp h).2⟩
theorem jGW_self : GoodIn jGW jGW := fun w h => ⟨h, good_of_word (List.mem_filter.mp h).2⟩
theorem jfind {α β : Type} {L : List (α × β)} {f : α → Bool} {r : β} (h : (L.find? (fun q => f q.1)).map (fun q => q.2) = some r) : ∃ a, (a, r) ∈ L ∧ f a = true := by
  cases hq : L.find? (fun q => f q.1) with
  | none => rw [hq] at h; cases h
  | some q =>
    rw [hq] at h
    obtain ⟨a, r'⟩ := q
    cases h
    have h2 := List.find?_some hq
    exact ⟨a, List.mem_of_find?_eq_some hq, h2⟩

theorem jdec_all : ∀ i, i < 119 → ∀ q ∈ jKs.getD i [], decode (jb i) q.1 = .ok q.2 := by
  intro i hi
  match i, hi with
  | 0, _ => exact jD0
  | 1, _ => exact jD1
  | 2, _ => exact jD2
  | 3, _ => exact jD3
  | 4, _ => exact jD4
  | 5, _ => exact jD5
  | 6, _ => exact jD6
  | 7, _ => exact jD7
  | 8, _ => exact jD8
  | 9, _ => exact jD9
  | 10, _ => exact jD10
  | 11, _ => exact jD11
  | 12, _ => exact jD12
  | 13, _ => exact jD13
  | 14, _ => exact jD14
  | 15, _ => exact jD15
  | 16, _ => exact jD16
  | 17, _ => exact jD17
  | 18, _ => exact jD18
  | 19, _ => exact jD19
  | 20, _ => exact jD20
  | 21, _ => exact jD21
  | 22, _ => exact jD22
  | 23, _ => exact jD23
  | 24, _ => exact jD24
  | 25, _ => exact jD25
  | 26, _ => exact jD26
  | 27, _ => exact jD27
  | 28, _ => exact jD28
  | 29, _ => exact jD29
  | 30, _ => exact jD30
  | 31, _ => exact jD31
  | 32, _ => exact jD32
  | 33, _ => exact jD33
  | 34, _ => exact jD34
  | 35, _ => exact jD35
  | 36, _ => exact jD36
  | 37, _ => exact jD37
  | 38, _ => exact jD38
  | 39, _ => exact jD39
  | 40, _ => exact jD40
  | 41, _ => exact jD41
  | 42, _ => exact jD42
  | 43, _ => exact jD43
  | 44, _ => exact jD44
  | 45, _ => exact jD45
  | 46, _ => exact jD46
  | 47, _ => exact jD47
  | 48, _ => exact jD48
  | 49, _ => exact jD49
  | 50, _ => exact jD50
  | 51, _ => exact jD51
  | 52, _ => exact jD52
  | 53, _ => exact jD53
  | 54, _ => exact jD54
  | 55, _ => exact jD55
  | 56, _ => exact jD56
  | 57, _ => exact jD57
  | 58, _ => exact jD58
  | 59, _ => exact jD59
  | 60, _ => exact jD60
  | 61, _ => exact jD61
  | 62, _ => exact jD62
  | 63, _ => exact jD63
  | 64, _ => exact jD64
  | 65, _ => exact jD65
  | 66, _ => exact jD66
  | 67, _ => exact jD67
  | 68, _ => exact jD68
  | 69, _ => exact jD69
  | 70, _ => exact jD70
  | 71, _ => exact jD71
  | 72, _ => exact jD72
  | 73, _ => exact jD73
  | 74, _ => exact jD74
  | 75, _ => exact jD75
  | 76, _ => exact jD76
  | 77, _ => exact jD77
  | 78, _ => exact jD78
  | 79, _ => exact jD79
  | 80, _ => exact jD80
  | 81, _ => exact jD81
  | 82, _ => exact jD82
  | 83, _ => exact jD83
  | 84, _ => exact jD84
  | 85, _ => exact jD85
  | 86, _ => exact jD86
  | 87, _ => exact jD87
  | 88, _ => exact jD88
  | 89, _ => exact jD89
  | 90, _ => exact jD90
  | 91, _ => exact jD91
  | 92, _ => exact jD92
  | 93, _ => exact jD93
  | 94, _ => exact jD94
  | 95, _ => exact jD95
  | 96, _ => exact jD96
  | 97, _ => exact jD97
  | 98, _ => exact jD98
  | 99, _ => exact jD99
  | 100, _ => exact jD100
  | 101, _ => exact jD101
  | 102, _ => exact jD102
  | 103, _ => exact jD103
  | 104, _ => exact jD104
  | 105, _ => exact jD105
  | 106, _ => exact jD106
  | 107, _ => exact jD107
  | 108, _ => exact jD108
  | 109, _ => exact jD109
  | 110, _ => exact jD110
  | 111, _ => exact jD111
  | 112, _ => exact jD112
  | 113, _ => exact jD113
  | 114, _ => exact jD114
  | 115, _ => exact jD115
  | 116, _ => exact jD116
  | 117, _ => exact jD117
  | 118, _ => exact jD118
  | k + 119, h => exact absurd h (by omega)
theorem jdec {i pc : Nat} {r : Instr × Nat} (h : jcode i pc = some r) : decode (jb i) pc = .ok r := by
  obtain ⟨a, h1, h2⟩ := jfind (f := fun a => a == pc) (show ((jKs.getD i []).find? (fun q => q.1 == pc)).map (fun q => q.2) = some r from h)
  have ha : a = pc := by simpa using h2
  subst ha
  by_cases hi : i < 119
  · have h3 : decode (jb i) ((a, r) : Nat × Instr × Nat).1 = .ok ((a, r) : Nat × Instr × Nat).2 := jdec_all i hi (a, r) h1
    exact h3
  · have : jKs.getD i [] = [] := by
      have hl : jKs.length = 119 := by decide +kernel
      rw [List.getD_eq_getElem?_getD, List.getElem?_eq_none (by omega)]; rfl
    rw [this] at h1; cases h1
theorem jlt {i pc : Nat} {r : Instr × Nat} (h : jcode i pc = some r) : i < 119 := by
  obtain ⟨a, h1, h2⟩ := jfind (f := fun a => a == pc) (show ((jKs.getD i []).find? (fun q => q.1 == pc)).map (fun q => q.2) = some r from h)
  by_cases hi : i < 119
  · exact hi
  · have : jKs.getD i [] = [] := by
      have hl : jKs.length = 119 := by decide +kernel
      rw [List.getD_eq_getElem?_getD, List.getElem?_eq_none (by omega)]; rfl
    rw [this] at h1; cases h1
end
section
theorem jpl {ws : List Cond} {ps : List Nat} (h : ps.map (fun i => lw_tbl[i]?) = ws.map some) (hg : ws.all goodWord = true) : ∀ w ∈ ws, w ∈ jGW := by
  intro w hw
  obtain ⟨k, hk⟩ := List.getElem?_of_mem hw
  have h1 : (ws.map some)[k]? = some (some w) := by rw [List.getElem?_map, hk]; rfl
  rw [← h, List.getElem?_map] at h1
  cases hp : ps[k]? with
  | none => rw [hp] at h1; cases h1
  | some i =>
    rw [hp] at h1
    exact jGW_of (List.mem_of_getElem? (Option.some.inj h1)) (List.all_eq_true.mp hg w hw)
/-- the layouts of the classes -/
theorem jlay0 : ∀ w ∈ u_ws "TrainingRows$Courses" jT0 10, w ∈ jGW := jpl (ps := [87, 89, 91, 93, 95, 97, 99, 101, 103, 105]) (by decide +kernel) (by decide +kernel)
theorem jlay1 : ∀ w ∈ u_ws "TrainingRows$Records" jT1 9, w ∈ jGW := jpl (ps := [135, 137, 139, 141, 143, 145, 147, 149, 151]) (by decide +kernel) (by decide +kernel)
theorem jlay2 : ∀ w ∈ u_ws "TrainingRows$Seating" jT2 6, w ∈ jGW := jpl (ps := [169, 171, 173, 175, 177, 179]) (by decide +kernel) (by decide +kernel)
theorem jlay3 : ∀ w ∈ u_ws "TrainingRows" jT3 5, w ∈ jGW := jpl (ps := [187, 189, 191, 193, 195]) (by decide +kernel) (by decide +kernel)
theorem jlay4 : ∀ w ∈ u_ws "TrainingRowsModel" jT4 25, w ∈ jGW := jpl (ps := [638, 640, 642, 644, 646, 648, 650, 652, 654, 656, 658, 660, 662, 664, 666, 668, 670, 672, 674, 676, 678, 680, 682, 684, 686]) (by decide +kernel) (by decide +kernel)
theorem jlay : ∀ q ∈ jCl, ∀ w ∈ u_ws q.1 q.2.1 q.2.2, w ∈ jGW := by
  intro q hq
  simp only [jCl, List.mem_cons, List.not_mem_nil, or_false] at hq
  rcases hq with rfl | rfl | rfl | rfl | rfl
  · exact jlay0
  · exact jlay1
  · exact jlay2
  · exact jlay3
  · exact jlay4
def jFw (q : (Nat × Nat) × Nat × Nat) : Cond := match jCl[q.2.1]? with
  | some r => .fieldLink (jcn q.1.1) q.1.2 (r.2.1 q.2.2).1 (r.2.1 q.2.2).2.1 (r.2.1 q.2.2).2.2.1
  | none => .tt
theorem jF_n : ∀ q ∈ jFL, q.2.2 < ((jCl[q.2.1]?).getD ("", jT0, 0)).2.2 := by decide +kernel
theorem jF_all : ∀ w ∈ jFL.map jFw, w ∈ jGW := jpl (ps := [68, 70, 72, 74, 76, 78, 79, 81, 83, 85, 119, 121, 122, 124, 126, 128, 130, 131, 133, 160, 162, 164, 165, 166, 167, 182, 183, 184, 185, 186, 77, 75, 71, 84, 80, 73, 129, 161, 168, 163, 86, 132, 134, 125, 120, 69, 123, 127, 82, 615, 617, 618, 619, 620, 621, 622, 624, 625, 626, 627, 628, 629, 630, 632, 633, 634, 635, 636, 637, 613, 616, 614, 623, 631]) (by decide +kernel) (by decide +kernel)
def jCws (q : (Nat × Nat) × Nat × Nat) : List Cond := match q.2.1 with
  | 0 => [.methodLink (jcn q.1.1) q.1.2 (jn q.2.2), .instanceMethod (jn q.2.2), .selects (jn q.2.2).cls (jn q.2.2) (jn q.2.2), .initialized (jn q.2.2).cls, jcw q.2.2]
  | 2 => [.methodLink (jcn q.1.1) q.1.2 (jn q.2.2), .instanceMethod (jn q.2.2), .initialized (jn q.2.2).cls, jcw q.2.2]
  | 4 => [.static (jn q.2.2), .initialized (jn q.2.2).cls, jcw q.2.2]
  | 5 => [.instanceMethod (jn q.2.2), .initialized (jn q.2.2).cls, jcw q.2.2]
  | _ => [.methodLink (jcn q.1.1) q.1.2 (jn q.2.2), .static (jn q.2.2), .initialized (jn q.2.2).cls, jcw q.2.2]
theorem jC_0 : ∀ w ∈ ((jCL.drop 0).take 30).flatMap jCws, w ∈ jGW := jpl (ps := [337, 40, 338, 379, 117, 43, 118, 116, 117, 43, 118, 541, 117, 43, 118, 550, 552, 13, 44, 553, 563, 565, 16, 44, 566, 337, 40, 338, 567, 569, 17, 44, 570, 571, 573, 18, 44, 574, 559, 561, 15, 44, 562, 575, 577, 19, 44, 578, 555, 557, 14, 44, 558, 65, 41, 66, 112, 113, 42, 114, 157, 44, 158, 207, 208, 40, 209, 279, 280, 281, 41, 282, 299, 300, 301, 41, 302, 312, 314, 1, 40, 315, 332, 333, 334, 41, 335, 355, 337, 40, 338, 357, 358, 359, 41, 360, 375, 376, 377, 41, 378, 394, 396, 2, 40, 397, 399, 401, 3, 40, 402, 423, 425, 8, 40, 426, 435, 437, 10, 40, 438, 444, 446, 11, 40, 447, 407, 409, 5, 40, 410, 415, 416, 40, 417]) (by decide +kernel) (by decide +kernel)
theorem jC_1 : ∀ w ∈ ((jCL.drop 30).take 30).flatMap jCws, w ∈ jGW := jpl (ps := [480, 481, 482, 42, 483, 491, 492, 493, 42, 494, 418, 420, 7, 40, 421, 411, 413, 6, 40, 414, 530, 531, 53, 532, 533, 534, 40, 535, 537, 538, 539, 44, 540, 542, 544, 12, 40, 545, 546, 547, 548, 44, 549, 602, 604, 20, 40, 605, 439, 440, 441, 42, 442, 448, 449, 450, 41, 451, 452, 453, 454, 42, 455, 403, 405, 4, 40, 406, 427, 429, 9, 40, 430, 431, 432, 53, 433, 697, 698, 45, 699, 708, 710, 22, 45, 711, 700, 702, 21, 45, 703, 712, 714, 23, 45, 715, 744, 746, 27, 45, 747, 748, 750, 28, 45, 751, 740, 742, 26, 45, 743, 752, 754, 29, 45, 755, 756, 758, 30, 45, 759, 764, 766, 32, 45, 767, 732, 734, 24, 45, 735, 736, 738, 25, 45, 739, 760, 762, 31, 45, 763, 768, 770, 33, 45, 771]) (by decide +kernel) (by decide +kernel)
theorem jC_2 : ∀ w ∈ ((jCL.drop 60).take 30).flatMap jCws, w ∈ jGW := jpl (ps := [816, 818, 36, 45, 819, 820, 822, 37, 45, 823, 824, 826, 38, 45, 827, 812, 814, 35, 45, 815, 808, 810, 34, 45, 811, 203, 204, 205, 40, 206, 308, 309, 310, 40, 311, 364, 365, 366, 40, 367, 371, 372, 373, 40, 374, 383, 384, 385, 40, 386, 390, 391, 392, 40, 393, 459, 460, 461, 40, 462, 467, 468, 469, 40, 470, 476, 477, 478, 40, 479, 487, 488, 489, 40, 490, 498, 499, 500, 40, 501, 505, 506, 507, 40, 508, 512, 513, 514, 40, 515, 519, 520, 521, 40, 522, 526, 527, 528, 40, 529, 582, 583, 584, 40, 585, 590, 591, 592, 40, 593, 598, 599, 600, 40, 601, 56, 57, 40, 58, 609, 610, 45, 611, 198, 199, 39, 200, 693, 694, 695, 45, 696, 689, 690, 691, 45, 692, 303, 304, 39, 305, 704, 705, 706, 45, 707]) (by decide +kernel) (by decide +kernel)
theorem jC_3 : ∀ w ∈ ((jCL.drop 90).take 30).flatMap jCws, w ∈ jGW := jpl (ps := [361, 362, 39, 363, 716, 717, 718, 45, 719, 368, 369, 39, 370, 720, 721, 722, 45, 723, 380, 381, 39, 382, 724, 725, 726, 45, 727, 387, 388, 39, 389, 728, 729, 730, 45, 731, 456, 457, 39, 458, 772, 773, 774, 45, 775, 464, 465, 39, 466, 776, 777, 778, 45, 779, 473, 474, 39, 475, 780, 781, 782, 45, 783, 484, 485, 39, 486, 784, 785, 786, 45, 787, 495, 496, 39, 497, 788, 789, 790, 45, 791, 502, 503, 39, 504, 792, 793, 794, 45, 795, 509, 510, 39, 511, 796, 797, 798, 45, 799, 516, 517, 39, 518, 800, 801, 802, 45, 803, 523, 524, 39, 525, 804, 805, 806, 45, 807, 579, 580, 39, 581, 828, 829, 830, 45, 831, 587, 588, 39, 589, 832, 833, 834, 45, 835]) (by decide +kernel) (by decide +kernel)
theorem jC_4 : ∀ w ∈ ((jCL.drop 120).take 30).flatMap jCws, w ∈ jGW := jpl (ps := [595, 596, 39, 597, 836, 837, 838, 45, 839]) (by decide +kernel) (by decide +kernel)
theorem jC_all : ∀ q ∈ jCL, ∀ w ∈ jCws q, w ∈ jGW := by
  intro q hq w hw
  have hs : jCL = (jCL.drop 0).take 30 ++ (jCL.drop 30).take 30 ++ (jCL.drop 60).take 30 ++ (jCL.drop 90).take 30 ++ (jCL.drop 120).take 30 := by decide +kernel
  rw [hs] at hq
  rcases List.mem_append.mp hq with hq | hq
  rotate_left
  · exact jC_4 w (List.mem_flatMap.mpr ⟨q, hq, hw⟩)
  rcases List.mem_append.mp hq with hq | hq
  rotate_left
  · exact jC_3 w (List.mem_flatMap.mpr ⟨q, hq, hw⟩)
  rcases List.mem_append.mp hq with hq | hq
  rotate_left
  · exact jC_2 w (List.mem_flatMap.mpr ⟨q, hq, hw⟩)
  rcases List.mem_append.mp hq with hq | hq
  rotate_left
  · exact jC_1 w (List.mem_flatMap.mpr ⟨q, hq, hw⟩)
  exact jC_0 w (List.mem_flatMap.mpr ⟨q, hq, hw⟩)
theorem jC_p : ∀ q ∈ jCL, (parseMethodDescriptor (jn q.2.2).desc).map (fun d => d.parameters.length) = some (jp q.2.2) ∧ (jn q.2.2).cls ≠ "java/lang/invoke/MethodHandle" ∧ (jn q.2.2).cls ≠ "java/lang/invoke/VarHandle" ∧ plainFor (jn q.2.2) = true := by decide +kernel
theorem jC_h : ∀ q ∈ jCL, (q.2.1 = 6 ∧ (jh q.2.2).isEmpty = false) ∨ (q.2.1 < 6 ∧ q.2.1 ≠ 3 ∧ (jh q.2.2).isEmpty = true) := by decide +kernel
theorem jC_i : ∀ q ∈ jCL, (q.2.1 = 2 ∨ q.2.1 = 5) → (jn q.2.2).name = "<init>" ∧ jr q.2.2 = none := by decide +kernel
def jNest : List (String × Nat × MethodName × String) := [("TrainingRows", 11, ⟨"TrainingRows$Courses", "<init>", "()V"⟩, "TrainingRows"), ("TrainingRows", 25, ⟨"TrainingRows$Seating", "<init>", "()V"⟩, "TrainingRows"), ("TrainingRows$Courses", 44, ⟨"TrainingRows", "isIn", "(II)Z"⟩, "TrainingRows"), ("TrainingRows$Seating", 45, ⟨"TrainingRows", "isIn", "(II)Z"⟩, "TrainingRows")]
theorem jC_n : ∀ q ∈ jCL, (q.2.1 = 4 ∨ q.2.1 = 5) → (jcn q.1.1, q.1.2, jn q.2.2, "TrainingRows") ∈ jNest := by decide +kernel
end
section
def jgood (w : Cond) : Bool := decide (w ∈ lw_tbl) && goodWord w
theorem jgood_spec {w : Cond} (h : jgood w = true) : w ∈ jGW := by
  simp only [jgood, Bool.and_eq_true, decide_eq_true_eq] at h
  exact jGW_of h.1 h.2
def jEx : List String := ["java/lang/RuntimeException", "java/lang/Exception"]
def jDecl : List MethodName := [⟨"java/lang/RuntimeException", "<init>", "(Ljava/lang/String;)V"⟩, ⟨"java/lang/Exception", "<init>", "(Ljava/lang/String;)V"⟩, ⟨"java/lang/Throwable", "<init>", "(Ljava/lang/String;)V"⟩]
def jCast : List String := ["java/lang/UnsupportedOperationException", "java/lang/IllegalStateException", "java/lang/IllegalArgumentException", "java/lang/IndexOutOfBoundsException"]
def jDe : List Cond := jDecl.map Cond.declares ++ jCast.map (fun x => Cond.castable x x)
theorem jXa0 : ∀ w ∈ vx_atS "TrainingRows" 49 "java/lang/UnsupportedOperationException" jEx, jgood w = true ∨ w ∈ jDe := by decide +kernel
theorem jXa1 : ∀ w ∈ vx_atS "TrainingRows" 68 "java/lang/IllegalStateException" jEx, jgood w = true ∨ w ∈ jDe := by decide +kernel
theorem jXa2 : ∀ w ∈ vx_atS "TrainingRows" 179 "java/lang/IllegalArgumentException" jEx, jgood w = true ∨ w ∈ jDe := by decide +kernel
theorem jXa3 : ∀ w ∈ vx_atS "TrainingRows" 187 "java/lang/IndexOutOfBoundsException" jEx, jgood w = true ∨ w ∈ jDe := by decide +kernel
theorem jXa : ∀ q ∈ jXL, ∀ w ∈ vx_atS "TrainingRows" q.2.2.2.1 q.2.2.2.2.1 jEx, w ∈ jGW ∨ w ∈ jDe := by
  intro q hq
  have hq2 : (q.2.2.2.1 = 49 ∧ q.2.2.2.2.1 = "java/lang/UnsupportedOperationException") ∨ (q.2.2.2.1 = 68 ∧ q.2.2.2.2.1 = "java/lang/IllegalStateException") ∨ (q.2.2.2.1 = 179 ∧ q.2.2.2.2.1 = "java/lang/IllegalArgumentException") ∨ (q.2.2.2.1 = 187 ∧ q.2.2.2.2.1 = "java/lang/IndexOutOfBoundsException") := by
    revert q; decide +kernel
  intro w hw
  rcases hq2 with ⟨h1, h2⟩ | ⟨h1, h2⟩ | ⟨h1, h2⟩ | ⟨h1, h2⟩
  · rw [h1, h2] at hw; exact (jXa0 w hw).imp jgood_spec id
  · rw [h1, h2] at hw; exact (jXa1 w hw).imp jgood_spec id
  · rw [h1, h2] at hw; exact (jXa2 w hw).imp jgood_spec id
  · rw [h1, h2] at hw; exact (jXa3 w hw).imp jgood_spec id
theorem jXg : ∀ q ∈ jXL, ∀ w ∈ Cond.classLink "TrainingRows" q.2.1 q.2.2.2.2.1 :: Cond.initialized q.2.2.2.2.1 :: vx_atS "TrainingRows" q.2.2.2.1 q.2.2.2.2.1 jEx, vx_ot w = true := by decide +kernel
theorem jXk : ∀ q ∈ jXL, jgood (Cond.classLink "TrainingRows" q.2.1 q.2.2.2.2.1) = true ∧ jgood (Cond.initialized q.2.2.2.2.1) = true ∧ Bundle.fit q.2.2.2.2.1 = true := by decide +kernel
theorem jXf : ∀ n ∈ jEx, Bundle.fit n = true := by decide +kernel
theorem jXo : ∀ q ∈ jXL, jcn (jo q.1.1) = "TrainingRows" ∧ (jh q.1.1).isEmpty = true := by decide +kernel
theorem jXc : ∀ q ∈ jXL, jcode q.1.1 q.1.2 = some (.new q.2.1, 3) ∧ jcode q.1.1 (q.1.2 + 3) = some (.dup, 1) ∧ jcode q.1.1 (q.1.2 + 4) = some (.ldc q.2.2.1, 2) ∧ jcode q.1.1 (q.1.2 + 6) = some (.invokespecial q.2.2.2.1, 3) ∧ jcode q.1.1 (q.1.2 + 9) = some (.athrow, 1) := by decide +kernel
def jStr : List (Nat × String) := jXL.map (fun q => (q.2.2.1, q.2.2.2.2.2))
def jNcL : List (String × String) := [("java/lang/UnsupportedOperationException", "java/lang/IllegalStateException"), ("java/lang/UnsupportedOperationException", "java/lang/IllegalArgumentException"), ("java/lang/UnsupportedOperationException", "java/lang/IndexOutOfBoundsException"), ("java/lang/IllegalStateException", "java/lang/UnsupportedOperationException"), ("java/lang/IllegalStateException", "java/lang/IllegalArgumentException"), ("java/lang/IllegalStateException", "java/lang/IndexOutOfBoundsException"), ("java/lang/IllegalArgumentException", "java/lang/UnsupportedOperationException"), ("java/lang/IllegalArgumentException", "java/lang/IllegalStateException"), ("java/lang/IllegalArgumentException", "java/lang/IndexOutOfBoundsException"), ("java/lang/IndexOutOfBoundsException", "java/lang/UnsupportedOperationException"), ("java/lang/IndexOutOfBoundsException", "java/lang/IllegalStateException"), ("java/lang/IndexOutOfBoundsException", "java/lang/IllegalArgumentException")]
/-- the handlers: their classes by the words, and that the rows ahead name other classes -/
theorem jHk : ∀ i, i < 119 → ∀ q ∈ (jh i).zip (jHC.getD i []), q.1.1 = q.2.1 ∧ q.1.2.1 = q.2.2.1 ∧ q.1.2.2.1 = q.2.2.2.1 ∧ q.1.2.2.2 ≠ 0 ∧ jgood (Cond.classLink (jcn (jo i)) q.1.2.2.2 q.2.2.2.2) = true ∧ q.2.2.2.2 ∈ jCast := by decide +kernel
theorem jHl : ∀ i, i < 119 → (jh i).length = (jHC.getD i []).length := by decide +kernel
end
section
/-- returned: at most mr cells of sr slots are new; thrown: mc, ms -/
def jQ (Qc : Array Value → State → Outcome → State → Prop) (XC : String → State → State → Prop) (mr sr mc ms : Nat) (free : Addr → Prop) : Array Value → State → Outcome → State → Prop := fun a st o t =>
  (Qc a st o t ∧ ∃ L, FrameEnd st o t L mr sr ∧ ∀ q ∈ L, free q.base) ∨ ∃ q, o = .threw q ∧ vx_T XC st q t mc ms free
def jMet (l : Launch) (y : MethodName) (ws : List Cond) (rm : Room) (Pc : Array Value → State → Prop) (Qc : Array Value → State → Outcome → State → Prop) (XC : String → State → State → Prop) (mr sr : Nat) (free : Addr → Prop) : Prop :=
  MetFree l y (headSpec ws rm) Pc (fun _ _ _ _ _ => True) (jQ Qc XC mr sr rm.cells rm.slots free)
section JBack
variable {l : Launch} {R : Room} {p : Program} {e : Env} {below : List Frame} {s : State} {sargs : Array Value} {y : MethodName} {len W9 : Nat}
theorem j_back {ws : List Cond} {rm : Room} {Pc : Array Value → State → Prop} {Qc : Array Value → State → Outcome → State → Prop} {XC : String → State → State → Prop} {mr sr mc ms : Nat} {free : Addr → Prop} {maxL : Nat}
    (hM : jMet l y ws rm Pc Qc XC mr sr free) (hblind : FrameBlind Pc) (hrc : rm.cells = mc) (hrs : rm.slots = ms)
    (hframes : rm.frames + 1 ≤ R.frames) (hlocals : W9 + (maxL + 11) + rm.locals ≤ R.locals)
    (hws : ∀ w ∈ ws, ∀ a' U, s.WarmedH U.vm → w.before a' U = true) (hmt : ∀ (U : State) (mk : MethodId), s.WarmedH U.vm → U.methodNamed? y = some mk → ∃ methY cY, U.vm.method? mk = some methY ∧ methY.code = some cY ∧ cY.maxLocals = maxL) (hinit : ∀ a' U, s.WarmedH U.vm → (Cond.initialized y.cls).before a' U = true) :
    vx_Back l R p e below s sargs y len W9 (PreOf R mc ms Pc) (PostOf Qc mr sr free) (vx_Post XC mc ms free) := by
  intro m meth c A g ig mk a X hg hsize hdg hW hn hp
  have h1 : (headSpec ws rm).pre.before a A.U = true := atoms_intro fun w hw => hws w hw _ _ X.warmed
  have h2 : ∃ methY cY, A.U.vm.method? mk = some methY ∧ methY.code = some cY ∧ cY.maxLocals = maxL := hmt _ _ X.warmed hn
  have h3 : (Cond.initialized y.cls).before a A.U = true := hinit _ _ X.warmed
  have h4 : A.cells + (headSpec ws rm).room.cells ≤ R.cells := by rw [show (headSpec ws rm).room.cells = mc from hrc]; exact hp.1
  have h5 : A.slots + (headSpec ws rm).room.slots ≤ R.slots := by rw [show (headSpec ws rm).room.slots = ms from hrs]; exact hp.2.1
  have hPc : Pc a (A.U.calling g mk a) := hblind _ _ _ _ hp.2.2
  obtain ⟨U, Ls, c0, s0⟩ := A
  dsimp only [Pt.U, Pt.locs, Pt.cells, Pt.slots] at h1 h2 h3 h4 h5 X hn hPc ⊢
  obtain ⟨methY, cY, hmY, hcY, hlY⟩ := h2
  obtain ⟨kY, hkY, -⟩ := className_of_methodNamed hn
  have hinitY : kY.init = .initialized := Cond.initialized_spec (findClass_of_methodNamed hn) hkY h3
  have h : At U g.method c below := by rw [hg]; exact X.here
  have hlocals9 : W9 + (maxL + 11) + (headSpec ws rm).room.locals ≤ R.locals := hlocals
  have happ : (headSpec ws rm).appliesLoose y e.platform (U.calling g mk a) = true :=
    Spec.appliesLoose_calling (g := g) h hdg hn hkY hinitY
      (X.room_calling (g := g) (R' := (headSpec ws rm).room) hsize hmY hcY hframes (by rw [hlY]; omega) h4 h5) h1
  obtain ⟨mid, hmid⟩ := h.above
  have hfr : (U.setTop g).frames = (.java g :: mid) ++ below := by rw [State.frames_setTop' g h.top, hmid]; rfl
  obtain ⟨o, s₂, hsteps, -, hend, hq⟩ := Steps.callFree hM p X.admits X.cas X.clock (acts := []) hfr happ hPc trivial
  have hq' : jQ Qc XC mr sr rm.cells rm.slots free a (U.calling g mk a) o s₂ := hq
  rw [State.frames_setTop' g h.top] at hend
  obtain ⟨g₀, hg0⟩ := Option.isSome_iff_exists.mp h.top
  obtain ⟨r, hr⟩ := State.topJava?_eq_some.mp hg0
  have hr' : (({ U with heap := s₂.heap, slotsUsed := s₂.slotsUsed } : State).setVm s₂.vm).frames = .java g₀ :: r := hr
  rw [hrc, hrs] at hq'
  rcases hq' with ⟨hqc, L, hfe, hL⟩ | ⟨q, rfl, E, ce, L, hx, hce, hcv, hcl, hW₂, hsm, hL⟩
  · obtain ⟨⟨v, rfl⟩, hW₂, e2, q2, q3, q4, q5, q6⟩ := id hfe
    have e3 : s₂ = ({ (U.calling g mk a).setFrames s₂.frames with heap := s₂.heap, slotsUsed := s₂.slotsUsed } : State).setVm s₂.vm := by
      have : s₂ = ({ s₂ with vm := (U.calling g mk a).vm } : State).setVm s₂.vm := rfl
      rw [e2] at this
      exact this
    obtain ⟨c₂, i₂, len₂, hc₂, hd₂, hf₂⟩ := hend
    have hW' : U.WarmedH s₂.vm := hW₂
    have hcc : c₂ = c := by
      have h1 : s₂.code? g.method = U.code? g.method := by
        rw [State.code?_eq, State.code?_eq, hW'.alike.method?]
      exact Option.some.inj (hc₂.symm.trans (h1.trans h.code))
    subst hcc
    have hlen : len₂ = len := by rw [hdg] at hd₂; cases hd₂; rfl
    subst hlen
    have hs₂ : s₂ = (({ U with heap := s₂.heap, slotsUsed := s₂.slotsUsed } : State).setVm s₂.vm).setTop { g with pc := g.pc + len₂, stack := v.toList ++ g.stack } := by
      refine e3.trans ?_
      rw [hf₂, State.calling_eq h.top, State.setFrames_setFrames, State.setTop_of_frames _ hr', hr]
      rfl
    have hsame : U.sameButNew ({ U with heap := s₂.heap, slotsUsed := s₂.slotsUsed } : State) L mr sr := by
      refine ⟨?_, q2, q3, q4, q5, q6⟩
      obtain ⟨t, ht, -⟩ := State.frames_cons hr
      show ({ U with heap := s₂.heap, slotsUsed := s₂.slotsUsed } : State) = { U.setFrames U.frames with heap := s₂.heap, slotsUsed := s₂.slotsUsed }
      rw [State.setFrames_self ht]
    subst hg
    refine Or.inl ⟨v, ⟨(({ U with heap := s₂.heap, slotsUsed := s₂.slotsUsed } : State).setVm s₂.vm), Ls ++ L, c0 + mr, s0 + sr⟩,
      ⟨X.admits, X.cas, X.clock, X.frames, X.room, X.hears, X.method, X.code, (X.here.setHeapUsed s₂.heap s₂.slotsUsed).setVm hW'.alike, X.tail, State.WarmedH.trans X.warmed hW', X.limits, X.bytes, X.same.trans (hsame.setVm s.vm)⟩,
      ⟨g, mk, s₂, L, rfl, rfl, hqc, rfl, hL, rfl, rfl⟩, ?_⟩
    show Steps p.tables e below _ ((({ U with heap := s₂.heap, slotsUsed := s₂.slotsUsed } : State).setVm s₂.vm).setTop { g with pc := g.pc + len₂, stack := v.toList ++ g.stack })
    rw [← hs₂]
    exact hsteps
  · obtain ⟨e2, q2, q3, q4, q5, q6⟩ := id hsm
    have e3 : s₂ = ({ (U.calling g mk a).setFrames s₂.frames with heap := s₂.heap, slotsUsed := s₂.slotsUsed } : State).setVm s₂.vm := by
      have : s₂ = ({ s₂ with vm := (U.calling g mk a).vm } : State).setVm s₂.vm := rfl
      rw [e2] at this
      exact this
    have hf₂ : s₂.frames = .throwing q :: .java g :: U.frames.tail := hend
    have hW' : U.WarmedH s₂.vm := hW₂
    have hs₂ : s₂ = ((({ U with heap := s₂.heap, slotsUsed := s₂.slotsUsed } : State).setVm s₂.vm).setTop g).pushFrame (.throwing q) := by
      refine e3.trans ?_
      rw [hf₂, State.calling_eq h.top, State.setFrames_setFrames, State.pushFrame, State.frames_setTop _ hr', State.setTop_of_frames _ hr', State.setFrames_setFrames, hr]
      rfl
    have hsame : U.sameButNew ({ U with heap := s₂.heap, slotsUsed := s₂.slotsUsed } : State) L mc ms := by
      refine ⟨?_, q2, q3, q4, q5, q6⟩
      obtain ⟨t, ht, -⟩ := State.frames_cons hr
      show ({ U with heap := s₂.heap, slotsUsed := s₂.slotsUsed } : State) = { U.setFrames U.frames with heap := s₂.heap, slotsUsed := s₂.slotsUsed }
      rw [State.setFrames_self ht]
    subst hg
    refine Or.inr ⟨q, ⟨(({ U with heap := s₂.heap, slotsUsed := s₂.slotsUsed } : State).setVm s₂.vm), Ls ++ L, c0 + mc, s0 + ms⟩,
      ⟨X.admits, X.cas, X.clock, X.frames, X.room, X.hears, X.method, X.code, (X.here.setHeapUsed s₂.heap s₂.slotsUsed).setVm hW'.alike, X.tail, State.WarmedH.trans X.warmed hW', X.limits, X.bytes, X.same.trans (hsame.setVm s.vm)⟩,
      ⟨g, mk, s₂, L, E, ce, rfl, rfl, hx, hce, hcv, hcl, rfl, hL, rfl, rfl⟩, ?_⟩
    show Steps p.tables e below _ (((({ U with heap := s₂.heap, slotsUsed := s₂.slotsUsed } : State).setVm s₂.vm).setTop g).pushFrame (.throwing q))
    rw [← hs₂]
    exact hsteps
end JBack
section JInv
variable {p : Program} {l : Launch} {e : Env} {R : Room} {s : State} {m : MethodId} {args : Array Value} {below : List Frame} {meth : Method} {c : Code} {T : State} {locs : List Loc} {cells slots : Nat}
/-- an instruction that calls y with the arguments a, and leaves 'rest' on the stack -/
def jInv (p : Program) (l : Launch) (e : Env) (R : Room) (s : State) (m : MethodId) (args : Array Value) (below : List Frame) (meth : Method) (c : Code) (H : Heap) (locs : List Loc) (cells slots : Nat) (g : JFrame) (rest : List Value) (y : MethodName) (a : Array Value) : Prop :=
  ∀ T : State, T.heap = H → Stand p l e R s m args below meth c T locs cells slots → ∃ (mk : MethodId) (vm₁ : Vm) (ig : Instr), Stand p l e R s m args below meth c (T.setVm vm₁) locs cells slots ∧ s.methodNamed? y = some mk ∧ decode c.code g.pc = .ok (ig, 3) ∧
    ∀ target, Steps p.tables e below (doInvoke e ((T.setVm vm₁).setTop { g with stack := rest }) [] mk a).1 target → Steps p.tables e below (T.setTop g) target
theorem jInvV {H : Heap} (hexec : p.tables.exec = Jvm.exec) {own C : String} {index : Nat} {y : MethodName} {bytes : ByteArray} {maxL : Nat} {ret : Option FieldType}
    (hown : s.vm.findClass own = some m.cls) (hlink : (Cond.methodLink own index y).before args s = true) (hinst : (Cond.instanceMethod y).before args s = true) (hsel : (Cond.selects C y y).before args s = true)
    (hcode : (Cond.code y bytes maxL ret).before args s = true) (hy : y.cls ≠ "java/lang/invoke/MethodHandle" ∧ y.cls ≠ "java/lang/invoke/VarHandle")
    {b : Addr} {cellB : Cell} (hcell : H[b]? = some cellB) (hobj : cellB.vm.isStatics = false) (hcls : s.vm.findClass C = some cellB.cls)
    {g : JFrame} (hg : g.method = m) {argsL rest : List Value} (hlen : ∀ sig, parseMethodDescriptor y.desc = some sig → argsL.length = sig.parameters.length)
    (hstack : g.stack = argsL.reverse ++ .ref b :: rest) (hdg : decode c.code g.pc = .ok (.invokevirtual index, 3)) : jInv p l e R s m args below meth c H locs cells slots g rest y (Value.ref b :: argsL).toArray := by
  intro T hT X
  obtain ⟨mk, methM, hnamed, hmethM, hstM, habM⟩ := Cond.instanceMethod_spec hinst
  obtain ⟨methM', cM, hmethM', -, -, -, -, -, -, hsigM⟩ := Cond.code_spec hnamed hcode
  cases hmethM.symm.trans hmethM'
  obtain ⟨c2, r2, m2, q1, q2, q3, q4, kP, hkP, hkPi⟩ := Cond.selects_spec hsel
  cases hcls.symm.trans q1
  cases (State.methodFound?_of_named hnamed hy).symm.trans q2
  cases hnamed.symm.trans q3
  have hselP : selectMethod e.platform s.vm cellB.cls mk = .method mk := by rw [Launch.admits_selectMethod X.admits]; exact q4
  obtain ⟨vm₁, X₁, hstep₁⟩ := X.invokevirtual hexec hown hlink hnamed hmethM hstM hkP hkPi hy (a := b) (cell := cellB) (by rw [hT]; exact hcell)
    (fun z h => by rw [h] at hobj; cases hobj) hselP hmethM habM hkP hkPi (g := g) hg (argsL := argsL) (rest := rest) (hlen _ hsigM) hstack hdg
  exact ⟨mk, vm₁, _, X₁, hnamed, hdg, fun target h => hstep₁ _ fun acts => by rw [doInvoke_state]; exact h⟩
theorem jInvS {H : Heap} (hexec : p.tables.exec = Jvm.exec) {own : String} {index : Nat} {y : MethodName} {bytes : ByteArray} {maxL : Nat} {ret : Option FieldType}
    (hown : s.vm.findClass own = some m.cls) (hlink : (Cond.methodLink own index y).before args s = true) (hstat : (Cond.static y).before args s = true) (hinit : (Cond.initialized y.cls).before args s = true)
    (hcode : (Cond.code y bytes maxL ret).before args s = true) (hy : y.cls ≠ "java/lang/invoke/MethodHandle" ∧ y.cls ≠ "java/lang/invoke/VarHandle")
    {g : JFrame} (hg : g.method = m) {argsL rest : List Value} (hlen : ∀ sig, parseMethodDescriptor y.desc = some sig → argsL.length = sig.parameters.length)
    (hstack : g.stack = argsL.reverse ++ rest) (hdg : decode c.code g.pc = .ok (.invokestatic index, 3)) : jInv p l e R s m args below meth c H locs cells slots g rest y argsL.toArray := by
  intro T hT X
  obtain ⟨mk, hnamed⟩ := Cond.code_named hcode
  obtain ⟨methM, cM, hmethM, -, -, -, -, -, -, hsigM⟩ := Cond.code_spec hnamed hcode
  have hstatic : methM.isStatic = true := Cond.static_spec hnamed hmethM hstat
  obtain ⟨kP, hkP, -⟩ := className_of_methodNamed hnamed
  have hinitP : kP.init = .initialized := Cond.initialized_spec (findClass_of_methodNamed hnamed) hkP hinit
  obtain ⟨vm₁, X₁, hstep₁⟩ := X.invokestatic hexec hown hlink hnamed hmethM hstatic hkP hinitP hy (g := g) hg (argsL := argsL) (rest := rest) (hlen _ hsigM) hstack hdg
  exact ⟨mk, vm₁, _, X₁, hnamed, hdg, fun target h => hstep₁ _ fun acts => by rw [doInvoke_state]; exact h⟩
theorem jInvSX {H : Heap} (hexec : p.tables.exec = Jvm.exec) {own : String} {index : Nat} {y : MethodName} {bytes : ByteArray} {maxL : Nat} {ret : Option FieldType} {hh : List (Nat × Nat × Nat × Nat)}
    (hown : s.vm.findClass own = some m.cls) (hlink : (Cond.methodLink own index y).before args s = true) (hstat : (Cond.static y).before args s = true) (hinit : (Cond.initialized y.cls).before args s = true)
    (hcode : (Cond.codeWith y bytes maxL ret hh).before args s = true) (hy : y.cls ≠ "java/lang/invoke/MethodHandle" ∧ y.cls ≠ "java/lang/invoke/VarHandle")
    {g : JFrame} (hg : g.method = m) {argsL rest : List Value} (hlen : ∀ sig, parseMethodDescriptor y.desc = some sig → argsL.length = sig.parameters.length)
    (hstack : g.stack = argsL.reverse ++ rest) (hdg : decode c.code g.pc = .ok (.invokestatic index, 3)) : jInv p l e R s m args below meth c H locs cells slots g rest y argsL.toArray := by
  intro T hT X
  obtain ⟨mk, methM, cM, hnamed, hmethM, -, -, -, -, -, -, hsigM⟩ := Cond.codeWith_spec hcode
  have hstatic : methM.isStatic = true := Cond.static_spec hnamed hmethM hstat
  obtain ⟨kP, hkP, -⟩ := className_of_methodNamed hnamed
  have hinitP : kP.init = .initialized := Cond.initialized_spec (findClass_of_methodNamed hnamed) hkP hinit
  obtain ⟨vm₁, X₁, hstep₁⟩ := X.invokestatic hexec hown hlink hnamed hmethM hstatic hkP hinitP hy (g := g) hg (argsL := argsL) (rest := rest) (hlen _ hsigM) hstack hdg
  exact ⟨mk, vm₁, _, X₁, hnamed, hdg, fun target h => hstep₁ _ fun acts => by rw [doInvoke_state]; exact h⟩
theorem jInvSN {H : Heap} (hexec : p.tables.exec = Jvm.exec) {own : String} {index : Nat} {host : String} {y : MethodName} {bytes : ByteArray} {maxL : Nat} {ret : Option FieldType}
    (hown : s.vm.findClass own = some m.cls) (hlink : (Cond.methodLinkNest own index y host).before args s = true) (hstat : (Cond.static y).before args s = true) (hinit : (Cond.initialized y.cls).before args s = true)
    (hcode : (Cond.code y bytes maxL ret).before args s = true) (hy : y.cls ≠ "java/lang/invoke/MethodHandle" ∧ y.cls ≠ "java/lang/invoke/VarHandle")
    {g : JFrame} (hg : g.method = m) {argsL rest : List Value} (hlen : ∀ sig, parseMethodDescriptor y.desc = some sig → argsL.length = sig.parameters.length)
    (hstack : g.stack = argsL.reverse ++ rest) (hdg : decode c.code g.pc = .ok (.invokestatic index, 3)) : jInv p l e R s m args below meth c H locs cells slots g rest y argsL.toArray := by
  intro T hT X
  obtain ⟨mk, hnamed⟩ := Cond.code_named hcode
  obtain ⟨methM, cM, hmethM, -, -, -, -, -, -, hsigM⟩ := Cond.code_spec hnamed hcode
  have hstatic : methM.isStatic = true := Cond.static_spec hnamed hmethM hstat
  obtain ⟨kP, hkP, -⟩ := className_of_methodNamed hnamed
  have hinitP : kP.init = .initialized := Cond.initialized_spec (findClass_of_methodNamed hnamed) hkP hinit
  obtain ⟨vm₁, X₁, hstep₁⟩ := X.invokestaticNest hexec hown hlink hnamed hmethM hstatic hkP hinitP hy (g := g) hg (argsL := argsL) (rest := rest) (hlen _ hsigM) hstack hdg
  exact ⟨mk, vm₁, _, X₁, hnamed, hdg, fun target h => hstep₁ _ fun acts => by rw [doInvoke_state]; exact h⟩
theorem jInvI {H : Heap} (hexec : p.tables.exec = Jvm.exec) {own : String} {index : Nat} {y : MethodName} {bytes : ByteArray} {maxL : Nat}
    (hown : s.vm.findClass own = some m.cls) (hy1 : y.name = "<init>") (hlink : (Cond.methodLink own index y).before args s = true) (hinst : (Cond.instanceMethod y).before args s = true)
    (hcode : (Cond.code y bytes maxL none).before args s = true) (hy : y.cls ≠ "java/lang/invoke/MethodHandle" ∧ y.cls ≠ "java/lang/invoke/VarHandle")
    {g : JFrame} (hg : g.method = m) {a : Addr} {argsL rest : List Value} (hlen : ∀ sig, parseMethodDescriptor y.desc = some sig → argsL.length = sig.parameters.length)
    (hstack : g.stack = argsL.reverse ++ .ref a :: rest) (hdg : decode c.code g.pc = .ok (.invokespecial index, 3)) : jInv p l e R s m args below meth c H locs cells slots g rest y (Value.ref a :: argsL).toArray := by
  intro T hT X
  subst hg
  have hpl : e.platform.magicAccessors = ({} : Platform).magicAccessors := by rw [X.admits.platform]
  obtain ⟨mk, methM, cM, kP, vm₁, hnamed, hmethM, hcodeM, -, hlocalsM, -, hkP, -, hW₁, hstep₁⟩ := Steps.initColdArgs (e := e) X.here hexec X.warmed hpl hown hy1 hy hlink hinst hcode (f := g) rfl hlen hstack hdg
  exact ⟨mk, vm₁, _, X.noted hW₁, hnamed, hdg, fun target h => hstep₁ _ fun acts => by rw [doInvoke_state]; exact h⟩
theorem jInvIN {H : Heap} (hexec : p.tables.exec = Jvm.exec) {own : String} {index : Nat} {host : String} {y : MethodName} {bytes : ByteArray} {maxL : Nat}
    (hown : s.vm.findClass own = some m.cls) (hy1 : y.name = "<init>") (hlink : (Cond.methodLinkNest own index y host).before args s = true) (hinst : (Cond.instanceMethod y).before args s = true)
    (hcode : (Cond.code y bytes maxL none).before args s = true) (hy : y.cls ≠ "java/lang/invoke/MethodHandle" ∧ y.cls ≠ "java/lang/invoke/VarHandle")
    {g : JFrame} (hg : g.method = m) {a : Addr} {argsL rest : List Value} (hlen : ∀ sig, parseMethodDescriptor y.desc = some sig → argsL.length = sig.parameters.length)
    (hstack : g.stack = argsL.reverse ++ .ref a :: rest) (hdg : decode c.code g.pc = .ok (.invokespecial index, 3)) : jInv p l e R s m args below meth c H locs cells slots g rest y (Value.ref a :: argsL).toArray := by
  intro T hT X
  subst hg
  have hpl : e.platform.magicAccessors = ({} : Platform).magicAccessors := by rw [X.admits.platform]
  obtain ⟨mk, methM, cM, kP, vm₁, hnamed, hmethM, hcodeM, -, hlocalsM, -, hkP, -, hW₁, hstep₁⟩ := Steps.initColdArgsNest (e := e) X.here hexec X.warmed hpl hown hy1 hy hlink hinst hcode (f := g) rfl hlen hstack hdg
  exact ⟨mk, vm₁, _, X.noted hW₁, hnamed, hdg, fun target h => hstep₁ _ fun acts => by rw [doInvoke_state]; exact h⟩
/-- the call, come back: returned or thrown -/
theorem jRun {H : Heap} {ws : List Cond} {rm : Room} {Pc : Array Value → State → Prop} {Qc : Array Value → State → Outcome → State → Prop} {XC : String → State → State → Prop} {mr sr : Nat} {free : Addr → Prop} {maxL : Nat} {y : MethodName} {a : Array Value} {g : JFrame} {rest : List Value}
    (hI : jInv p l e R s m args below meth c H locs cells slots g rest y a) (hM : jMet l y ws rm Pc Qc XC mr sr free) (hblind : FrameBlind Pc)
    (hframes : rm.frames + 1 ≤ R.frames) (hlocals : 8 + (maxL + 11) + rm.locals ≤ R.locals)
    (hws : ∀ w ∈ ws, ∀ a' U, s.WarmedH U.vm → w.before a' U = true) (hmt : ∀ (U : State) (mk : MethodId), s.WarmedH U.vm → U.methodNamed? y = some mk → ∃ methY cY, U.vm.method? mk = some methY ∧ methY.code = some cY ∧ cY.maxLocals = maxL) (hinit : (Cond.initialized y.cls).before args s = true)
    (hg : g.method = m) (hsize : g.locals.size = c.maxLocals) (hW : 2 * g.monitorRoom + (rest.map fun v => v.category).sum ≤ 8) (hf : cells + rm.cells ≤ R.cells ∧ slots + rm.slots ≤ R.slots)
    (hp : ∀ U : State, U.heap = H → s.WarmedH U.vm → Pc a U) {Q : State → Prop}
    (kr : ∀ (v : Option Value) (st₀ t T' : State) (L : List Loc), st₀.heap = H → Stand p l e R s m args below meth c T' (locs ++ L) (cells + mr) (slots + sr) → (∀ q ∈ L, free q.base) → T'.heap = t.heap → T'.vm = t.vm → Qc a st₀ (.returned v) t → ∃ t, Steps p.tables e below (T'.setTop { g with pc := g.pc + 3, stack := v.toList ++ rest }) t ∧ Q t)
    (kx : ∀ (q : Addr) (st₀ t T' : State) (L : List Loc) (E : String) (ce : Cell), st₀.heap = H → Stand p l e R s m args below meth c T' (locs ++ L) (cells + rm.cells) (slots + rm.slots) → (∀ z ∈ L, free z.base) → T'.heap = t.heap → T'.vm = t.vm → XC E st₀ t → t.heap[q]? = some ce → ce.vm = .none → s.vm.findClass E = some ce.cls → ∃ t, Steps p.tables e below ((T'.setTop { g with stack := rest }).pushFrame (.throwing q)) t ∧ Q t) :
    W p l e R s m args below meth c H locs cells slots Q g := by
  intro T hT X
  obtain ⟨mk, vm₁, ig, X₁, hnamed, hdg, hstep⟩ := hI T hT X
  have hK : vx_Back l R p e below s args y 3 8 (PreOf R rm.cells rm.slots Pc) (PostOf Qc mr sr free) (vx_Post XC rm.cells rm.slots free) := j_back hM hblind rfl rfl hframes hlocals hws hmt (fun a' U hW => word_at hW (Or.inl (by first | rfl | simp [Cond.onTables, Cond.keeps, Cond.steady])) hinit)
  rcases hK m meth c ⟨T.setVm vm₁, locs, cells, slots⟩ { g with stack := rest } ig mk a X₁ hg hsize hdg hW (X₁.named hnamed) ⟨hf.1, hf.2, hp (T.setVm vm₁) hT X₁.warmed⟩ with ⟨v, ⟨U', l2, c2, s2⟩, X', ⟨g', mk', t, L, e1, e2, hq, h1, hL, h2, h3⟩, st⟩ | ⟨q, ⟨U', l2, c2, s2⟩, X', ⟨g', mk', t, L, E, ce, e1, e2, hq, hce, hcv, hcl, h1, hL, h2, h3⟩, st⟩
  · dsimp only [Pt.U, Pt.locs, Pt.cells, Pt.slots] at X' e1 e2 h1 h2 h3 st
    subst h1; subst h2; subst h3
    obtain ⟨t9, st9, hQ⟩ := kr v ((T.setVm vm₁).calling g' mk' a) t U' L hT X' hL e1 e2 hq
    exact ⟨t9, hstep _ (st.trans st9), hQ⟩
  · dsimp only [Pt.U, Pt.locs, Pt.cells, Pt.slots] at X' e1 e2 h1 h2 h3 st hcl
    subst h1; subst h2; subst h3
    obtain ⟨t9, st9, hQ⟩ := kx q ((T.setVm vm₁).calling g' mk' a) t U' L E ce hT X' hL e1 e2 hq hce hcv (vx_cls X₁.warmed hcl) 
    exact ⟨t9, hstep _ (st.trans st9), hQ⟩
end JInv
end
section
/-! OUR SMALL MACHINE: logical values and cells, and what they are in the real heap -/
/-- a logical value's real one: addresses by al -/
def jt (al : Nat → Nat) (v : Value) : Value := match v with
  | .ref k => .ref (al k)
  | .int x => .int x
  | .long x => .long x
  | .float x => .float x
  | .double x => .double x
  | .null => .null
  | .retAddr x => .retAddr x
theorem jt_cat (al : Nat → Nat) (v : Value) : (jt al v).category = v.category := by cases v <;> rfl
theorem jt_sum (al : Nat → Nat) (vs : List Value) : ((vs.map (jt al)).map fun v => v.category).sum = (vs.map fun v => v.category).sum := by
  rw [List.map_map]
  congr 1
  exact List.map_congr_left fun v _ => jt_cat al v
/-- a logical cell: an array (number of its type, length, contents), an object (number of its kind, fields) -/
abbrev jC : Type := (Nat × Nat × ((Nat → Int32) ⊕ (Nat → Int64))) ⊕ (Nat × List Value)
def jE (cA : Nat → ClassId) (al : Nat → Nat) (c : jC) : va_E := match c with
  | .inl (t, n, .inl f) => .inl (cA t, n, .inl f)
  | .inl (t, n, .inr f) => .inl (cA t, n, .inr (.inl f))
  | .inr (k, fs) => .inr (k, fs.map (jt al))
def jW (cA : Nat → ClassId) (al : Nat → Nat) : Nat → List jC → va_W
  | _, [] => []
  | k, c :: r => (al k, jE cA al c) :: jW cA al (k + 1) r
theorem jW_get (cA : Nat → ClassId) (al : Nat → Nat) : ∀ (h : List jC) (n k : Nat), (jW cA al n h)[k]? = (h[k]?).map (fun c => (al (n + k), jE cA al c))
  | [], n, k => by simp [jW]
  | c :: r, n, 0 => by simp [jW]
  | c :: r, n, k + 1 => by
    simp only [jW, List.getElem?_cons_succ]
    rw [jW_get cA al r (n + 1) k, show n + 1 + k = n + (k + 1) by omega]
theorem jW_set (cA : Nat → ClassId) (al : Nat → Nat) : ∀ (h : List jC) (n k : Nat) (c : jC), jW cA al n (h.set k c) = (jW cA al n h).set k (al (n + k), jE cA al c)
  | [], n, k, c => by simp [jW]
  | d :: r, n, 0, c => by simp [jW]
  | d :: r, n, k + 1, c => by
    simp only [jW, List.set_cons_succ]
    rw [jW_set cA al r (n + 1) k, show n + 1 + k = n + (k + 1) by omega]
theorem jW_app (cA : Nat → ClassId) (al : Nat → Nat) : ∀ (h : List jC) (n : Nat) (c : jC), jW cA al n (h ++ [c]) = jW cA al n h ++ [(al (n + h.length), jE cA al c)]
  | [], n, c => by simp [jW]
  | d :: r, n, c => by
    simp only [jW, List.cons_append, List.length_cons]
    rw [jW_app cA al r (n + 1) c, show n + 1 + r.length = n + (r.length + 1) by omega]
theorem jW_at {cA : Nat → ClassId} {al : Nat → Nat} {h : List jC} {k : Nat} {c : jC} (hk : h[k]? = some c) : (jW cA al 0 h)[k]? = some (al k, jE cA al c) := by
  rw [jW_get, hk, Nat.zero_add]; rfl
/-- the environment: numbers of the real tables; the heap's size at the start; the script -/
abbrev jEnv : Type := (Nat → ClassId) × (Nat → Nat → Nat) × (Nat → ClassId) × Nat × Nat × Nat × (Nat → Int32)
def jA (E : jEnv) : Nat → Prop := fun q => E.2.2.2.1 ≤ q
def jD (E : jEnv) : va_G := (E.1, E.2.1)
def jtys (E : jEnv) : List (ClassId × FieldType) := [(E.2.2.1 0, .int), (E.2.2.1 1, .boolean), (E.2.2.1 2, .long)]
/-- what holds of the tables and of the cells that nobody writes -/
def jBase (E : jEnv) (U : State) (H : Heap) : Prop :=
  va_K (jD E) jCl (jtys E) U ∧ vx_Zq Bundle.tN "UNASSIGNED_STACK" Bundle.steD (jA E) U H ∧ vx_Zq Bundle.tN "SUPPRESSED_SENTINEL" Bundle.listD (jA E) U H ∧
  (∀ q ∈ jStr, ∃ sa, vk_R "TrainingRows" q.1 q.2 sa U) ∧ (∀ q ∈ jNcL, va_Nc q.1 q.2 U) ∧ (∀ q ∈ jNest, va_Nw (.methodLinkNest q.1 q.2.1 q.2.2.1 q.2.2.2) U) ∧
  (∀ q ∈ jDecl, va_Nw (.declares q) U) ∧ (∀ q ∈ jCast, va_Nw (.castable q q) U) ∧ va_X E.2.2.2.2.1 E.2.2.2.2.2.1 E.2.2.2.2.2.2 U H ∧ E.2.2.2.1 ≤ H.size ∧ E.2.2.2.2.1 < E.2.2.2.1
theorem jBase_moved {E : jEnv} {s U : State} {H0 H : Heap} (hW : s.WarmedH U.vm) (hz : H0.size ≤ H.size) (hk : ∀ q : Nat, q < H0.size → ¬ jA E q → H[q]? = H0[q]?) (h : jBase E s H0) : jBase E U H := by
  obtain ⟨h1, h2, h3, h4, h5, h6, h7, h8, h9, h10, h11⟩ := h
  refine ⟨va_K.moved hW.alike h1, vx_Zq.moved hW.alike (h2.kept hk), vx_Zq.moved hW.alike (h3.kept hk), fun q hq => ?_, fun q hq => va_Nc.moved hW.alike (h5 q hq), fun q hq => va_Nw.warmM hW (h6 q hq), fun q hq => va_Nw.warmD hW (h7 q hq), fun q hq => va_Nw.warmC hW (h8 q hq), va_X.moved hW.alike (h9.kept (hk _ (by omega) (Nat.not_le.mpr h11))), by omega, h11⟩
  obtain ⟨sa, ha⟩ := h4 q hq
  exact ⟨sa, vk_R.warm hW ha⟩
/-- the heap H holds the logical heap h, at the addresses al; the script is address 9999 -/
def jHeap (E : jEnv) (al : Nat → Nat) (h : List jC) (H : Heap) : Prop := va_P (jD E) jCl (jW E.2.2.1 al 0 h) H ∧ va_D (jA E) (jW E.2.2.1 al 0 h) ∧ al 9999 = E.2.2.2.2.1
/-- later addresses agree with the earlier ones -/
def jExt (al : Nat → Nat) (h : List jC) (al' : Nat → Nat) (h' : List jC) : Prop := h.length ≤ h'.length ∧ (∀ k, k < h.length → al' k = al k) ∧ (h'.length = h.length → al' = al)
theorem jExt_rf {al : Nat → Nat} {h : List jC} : jExt al h al h := ⟨Nat.le_refl _, fun _ _ => rfl, fun _ => rfl⟩
theorem jExt_set {al al' : Nat → Nat} {h h' : List jC} {k : Nat} {c : jC} (x : jExt al h al' h') : jExt al h al' (h'.set k c) := by
  obtain ⟨x1, x2, x3⟩ := x
  exact ⟨by rw [List.length_set]; exact x1, x2, fun e => x3 (by rw [List.length_set] at e; exact e)⟩
theorem jExt_tr {al al' al'' : Nat → Nat} {h h' h'' : List jC} (x : jExt al h al' h') (y : jExt al' h' al'' h'') : jExt al h al'' h'' := by
  obtain ⟨x1, x2, x3⟩ := x
  obtain ⟨y1, y2, y3⟩ := y
  refine ⟨by omega, fun k hk => (y2 k (by omega)).trans (x2 k hk), fun e => ?_⟩
  rw [y3 (by omega), x3 (by omega)]
/-- an outcome: returned with a value or without, or thrown, by its exact name -/
abbrev jO : Type := Option Value ⊕ String
def jQc (E : jEnv) (Q : jO → List jC → Prop) (al0 : Nat → Nat) (h0 : List jC) : Array Value → State → Outcome → State → Prop := fun _ st o t =>
  ∃ (v : Option Value) (al' : Nat → Nat) (h' : List jC), o = .returned (v.map (jt al')) ∧ Q (.inl v) h' ∧ jExt al0 h0 al' h' ∧ jHeap E al' h' t.heap ∧ va_F (jA E) st t
def jXC (E : jEnv) (Q : jO → List jC → Prop) (al0 : Nat → Nat) (h0 : List jC) : String → State → State → Prop := fun X st t =>
  ∃ (al' : Nat → Nat) (h' : List jC), X ∈ jCast ∧ Q (.inr X) h' ∧ jExt al0 h0 al' h' ∧ jHeap E al' h' t.heap ∧ va_F (jA E) st t
def jMQ (E : jEnv) (Q : jO → List jC → Prop) (i : Nat) (al0 : Nat → Nat) (h0 : List jC) (below : List Frame) (a : Array Value) (s : State) : State → Prop := fun t =>
  ∃ o, t.status = .running ∧ Ended t below o ∧ jQ (jQc E Q al0 h0) (jXC E Q al0 h0) (jrc i) (jrs i) (jm i).cells (jm i).slots (jA E) a s o t
def jCtx (l : Launch) (E : jEnv) (i : Nat) (p : Program) (S : State) (m : MethodId) (args : Array Value) (meth : Method) (cd : Code) : Prop :=
  p.tables.exec = Jvm.exec ∧ cd.code = jb i ∧ cd.maxLocals = jl i ∧ meth.sig.returnType = jr i ∧ S.vm.findClass (jcn (jo i)) = some m.cls ∧ (∀ w ∈ jGW, w.before args S = true) ∧ cd.exceptionTable.toList = tableOf (jh i) ∧ meth.locks = false ∧ ((jn i).name = "<init>" → meth.name = "<init>") ∧ jBase E S S.heap ∧ l.stackTraces = false
/-- the locals, slot by slot; what is none is not known -/
def jlist : Nat → List (Option Value) → List (Nat × Value)
  | _, [] => []
  | k, none :: r => jlist (k + 1) r
  | k, some v :: r => (k, v) :: jlist (k + 1) r
theorem jlist_mem : ∀ (loc : List (Option Value)) (n : Nat) (q : Nat × Value), q ∈ jlist n loc ↔ ∃ j, q.1 = n + j ∧ loc[j]? = some (some q.2)
  | [], n, q => by simp [jlist]
  | none :: r, n, q => by
    rw [jlist, jlist_mem r (n + 1) q]
    constructor
    · rintro ⟨j, h1, h2⟩
      exact ⟨j + 1, by omega, by simpa using h2⟩
    · rintro ⟨j, h1, h2⟩
      cases j with
      | zero => simp at h2
      | succ j => exact ⟨j, by omega, by simpa using h2⟩
  | some v :: r, n, q => by
    rw [jlist, List.mem_cons, jlist_mem r (n + 1) q]
    constructor
    · rintro (rfl | ⟨j, h1, h2⟩)
      · exact ⟨0, rfl, rfl⟩
      · exact ⟨j + 1, by omega, by simpa using h2⟩
    · rintro ⟨j, h1, h2⟩
      cases j with
      | zero => left; simp at h2; obtain ⟨a, b⟩ := q; simp at h1 h2; rw [h1, h2]
      | succ j => right; exact ⟨j, by omega, by simpa using h2⟩
def jlv (al : Nat → Nat) (loc : List (Option Value)) : List (Nat × Value) := (jlist 0 loc).map (fun q => (q.1, jt al q.2))
theorem jlv_mem {al : Nat → Nat} {loc : List (Option Value)} {k : Nat} {v : Value} (h : loc[k]? = some (some v)) : (k, jt al v) ∈ jlv al loc :=
  List.mem_map.mpr ⟨(k, v), (jlist_mem loc 0 (k, v)).mpr ⟨k, (Nat.zero_add k).symm, h⟩, rfl⟩
theorem jlv_at {al : Nat → Nat} {loc : List (Option Value)} {k n : Nat} {v : Value} {ls : Array Slot} (hl : lv_has ls n (jlv al loc)) (h : loc[k]? = some (some v)) : ls[k]? = some (.val (jt al v)) := hl.2.2 _ (jlv_mem h)
/-- from here the method i comes to its end, and there Q -/
def GO (l : Launch) (E : jEnv) (i pc : Nat) (loc : List (Option Value)) (st : List Value) (h : List jC) (c s : Nat) (Q : jO → List jC → Prop) : Prop :=
  ∀ (p : Program) (e : Env) (S : State) (m : MethodId) (args : Array Value) (below : List Frame) (meth : Method) (cd : Code), jCtx l E i p S m args meth cd →
  ∀ (al0 : Nat → Nat) (h0 : List jC) (al : Nat → Nat) (H : Heap) (locs : List Loc) (ls : Array Slot), jExt al0 h0 al h → jHeap E al h H → va_S (jA E) S.heap H locs → lv_has ls (jl i) (jlv al loc) →
  W p l e (jm i) S m args below meth cd H locs c s (jMQ E Q i al0 h0 below args S) (F0 m pc ls (st.map (jt al)))
/-- a store into a slot that no long covers -/
def jfree (loc : List (Option Value)) : Nat → Bool
  | 0 => true
  | k + 1 => match loc[k]? with
    | some (some (.long _)) => false
    | some (some (.double _)) => false
    | _ => true
theorem jlv_put {al : Nat → Nat} {loc : List (Option Value)} {i n : Nat} {v : Value} {ls : Array Slot} (hf : jfree loc i = true) (h : lv_has ls n ((i, jt al v) :: (jlv al loc).filter (fun q => !(q.1 == i) && !(q.1 + 1 == i && q.2.category == 2)))) : lv_has ls n (jlv al (loc.set i (some v))) := by
  refine ⟨h.1, h.2.1, fun q hq => h.2.2 q ?_⟩
  obtain ⟨⟨j, w⟩, hw, rfl⟩ := List.mem_map.mp hq
  obtain ⟨k, hk, hg⟩ := (jlist_mem _ 0 (j, w)).mp hw
  rw [Nat.zero_add] at hk
  dsimp only at hk hg ⊢
  subst hk
  by_cases hji : j = i
  · subst hji
    have hlt : j < loc.length := by
      have := (List.getElem?_eq_some_iff.mp hg).1
      rwa [List.length_set] at this
    rw [List.getElem?_set_self hlt] at hg
    cases hg
    exact List.mem_cons_self
  · rw [List.getElem?_set_ne (Ne.symm hji)] at hg
    refine List.mem_cons_of_mem _ (List.mem_filter.mpr ⟨jlv_mem hg, ?_⟩)
    simp only [Bool.and_eq_true, Bool.not_eq_true', beq_eq_false_iff_ne, ne_eq, Bool.and_eq_false_iff]
    refine ⟨hji, ?_⟩
    by_cases h1 : j + 1 = i
    · right
      subst h1
      rw [jt_cat]
      cases w with
      | long x => simp [jfree, hg] at hf
      | double x => simp [jfree, hg] at hf
      | _ => simp [Value.category]
    · left; exact h1
/-- a value is forgotten -/
theorem jlv_drop {al : Nat → Nat} {loc : List (Option Value)} {i n : Nat} {v : Value} {ls : Array Slot} (hf : jfree loc i = true) (h : lv_has ls n ((i, v) :: (jlv al loc).filter (fun q => !(q.1 == i) && !(q.1 + 1 == i && q.2.category == 2)))) : lv_has ls n (jlv al (loc.set i none)) := by
  refine ⟨h.1, h.2.1, fun q hq => h.2.2 q ?_⟩
  obtain ⟨⟨j, w⟩, hw, rfl⟩ := List.mem_map.mp hq
  obtain ⟨k, hk, hg⟩ := (jlist_mem _ 0 (j, w)).mp hw
  rw [Nat.zero_add] at hk
  dsimp only at hk hg ⊢
  subst hk
  by_cases hji : j = i
  · subst hji
    have hlt : j < loc.length := by
      have := (List.getElem?_eq_some_iff.mp hg).1
      rwa [List.length_set] at this
    rw [List.getElem?_set_self hlt] at hg
    cases hg
  · rw [List.getElem?_set_ne (Ne.symm hji)] at hg
    refine List.mem_cons_of_mem _ (List.mem_filter.mpr ⟨jlv_mem hg, ?_⟩)
    simp only [Bool.and_eq_true, Bool.not_eq_true', beq_eq_false_iff_ne, ne_eq, Bool.and_eq_false_iff]
    refine ⟨hji, ?_⟩
    by_cases h1 : j + 1 = i
    · right
      subst h1
      rw [jt_cat]
      cases w with
      | long x => simp [jfree, hg] at hf
      | double x => simp [jfree, hg] at hf
      | _ => simp [Value.category]
    · left; exact h1
end
section
/-! one instruction's step, as what must hold; jop at an instruction in its plain form (slots by number, targets by place) -/
def jnorm (pc : Nat) : Instr → Instr
  | .iload_n n => .iload n.val
  | .aload_n n => .aload n.val
  | .lload_n n => .lload n.val
  | .istore_n n => .istore n.val
  | .astore_n n => .astore n.val
  | .goto off => .goto (pc + off)
  | .ifCond c off => .ifCond c (pc + off)
  | .if_icmp c off => .if_icmp c (pc + off)
  | .tableswitch d lo hi offs => .tableswitch (pc + d) lo hi (offs.map (fun o => pc + o))
  | x => x
def jcd (i pc : Nat) : Option (Instr × Nat) := (jcode i pc).map (fun r => (jnorm pc r.1, pc + r.2))
/-- what is checked once of every row of the code -/
def jchk (i : Nat) (q : Nat × Instr × Nat) : Bool := match q.2.1 with
  | .iload_n _ => q.2.2 == 1
  | .aload_n _ => q.2.2 == 1
  | .lload_n _ => q.2.2 == 1
  | .istore_n k => q.2.2 == 1 && decide (k.val < jl i)
  | .astore_n k => q.2.2 == 1 && decide (k.val < jl i)
  | .iload _ => q.2.2 == 2
  | .aload _ => q.2.2 == 2
  | .lload _ => q.2.2 == 2
  | .istore k => q.2.2 == 2 && decide (k < jl i)
  | .astore k => q.2.2 == 2 && decide (k < jl i)
  | .iinc k _ => q.2.2 == 3 && decide (k < jl i)
  | .bipush _ => q.2.2 == 2
  | .sipush _ => q.2.2 == 3
  | .ldc _ => q.2.2 == 2
  | .ldc2_w _ => q.2.2 == 3
  | .getfield _ => q.2.2 == 3
  | .putfield _ => q.2.2 == 3
  | .invokevirtual _ => q.2.2 == 3
  | .invokestatic _ => q.2.2 == 3
  | .invokespecial _ => q.2.2 == 3
  | .new _ => q.2.2 == 3
  | .newarray _ => q.2.2 == 2
  | .goto o => q.2.2 == 3 && decide (0 ≤ (q.1 : Int) + o)
  | .ifCond _ o => q.2.2 == 3 && decide (0 ≤ (q.1 : Int) + o)
  | .if_icmp _ o => q.2.2 == 3 && decide (0 ≤ (q.1 : Int) + o)
  | .tableswitch d lo hi offs => decide (0 ≤ (q.1 : Int) + d) && offs.toList.all (fun o => decide (0 ≤ (q.1 : Int) + o)) && decide (lo ≤ hi) && decide ((offs.size : Int) = hi - lo + 1) && decide (0 ≤ lo) && decide (hi < 1000)
  | .ireturn => q.2.2 == 1 && (jr i == some .int || jr i == some .boolean)
  | .return_ => q.2.2 == 1 && (jr i).isNone
  | _ => q.2.2 == 1
theorem jchk_all : ∀ i, i < 119 → ∀ q ∈ jKs.getD i [], jchk i q = true := by decide +kernel
theorem jchk_of {i pc : Nat} {r : Instr × Nat} (h : jcode i pc = some r) : jchk i (pc, r) = true := by
  have hi := jlt h
  obtain ⟨a, h1, h2⟩ := jfind (f := fun a => a == pc) (show ((jKs.getD i []).find? (fun q => q.1 == pc)).map (fun q => q.2) = some r from h)
  have ha : a = pc := by simpa using h2
  subst ha
  exact jchk_all i hi (a, r) h1
/-! the shapes of stack, locals and heap that an instruction wants -/
def j1i (st : List Value) (F : Int32 → List Value → Prop) : Prop := match st with
  | .int x :: r => F x r
  | _ => False
def j1r (st : List Value) (F : Nat → List Value → Prop) : Prop := match st with
  | .ref a :: r => F a r
  | _ => False
def j1l (st : List Value) (F : Int64 → List Value → Prop) : Prop := match st with
  | .long x :: r => F x r
  | _ => False
def j2i (st : List Value) (F : Int32 → Int32 → List Value → Prop) : Prop := match st with
  | .int y :: .int x :: r => F x y r
  | _ => False
def j2l (st : List Value) (F : Int64 → Int64 → List Value → Prop) : Prop := match st with
  | .long y :: .long x :: r => F x y r
  | _ => False
def jil (st : List Value) (F : Int64 → Int32 → List Value → Prop) : Prop := match st with
  | .int y :: .long x :: r => F x y r
  | _ => False
def jia (st : List Value) (F : Nat → Int32 → List Value → Prop) : Prop := match st with
  | .int j :: .ref a :: r => F a j r
  | _ => False
def jiia (st : List Value) (F : Nat → Int32 → Int32 → List Value → Prop) : Prop := match st with
  | .int x :: .int j :: .ref a :: r => F a j x r
  | _ => False
def jlia (st : List Value) (F : Nat → Int32 → Int64 → List Value → Prop) : Prop := match st with
  | .long x :: .int j :: .ref a :: r => F a j x r
  | _ => False
def jgi (o : Option (Option Value)) (F : Int32 → Prop) : Prop := match o with
  | some (some (.int x)) => F x
  | _ => False
def jgl (o : Option (Option Value)) (F : Int64 → Prop) : Prop := match o with
  | some (some (.long x)) => F x
  | _ => False
def jgr (o : Option (Option Value)) (F : Nat → Prop) : Prop := match o with
  | some (some (.ref x)) => F x
  | _ => False
def jar (o : Option jC) (t : Nat) (F : Nat → (Nat → Int32) → Prop) : Prop := match o with
  | some (.inl (t', n, .inl f)) => t' = t ∧ F n f
  | _ => False
def jal (o : Option jC) (F : Nat → (Nat → Int64) → Prop) : Prop := match o with
  | some (.inl (t', n, .inr f)) => t' = 2 ∧ F n f
  | _ => False
def job (o : Option jC) (k : Nat) (F : List Value → Prop) : Prop := match o with
  | some (.inr (k', fs)) => k' = k ∧ F fs
  | _ => False
def jso {α : Type} (o : Option α) (F : α → Prop) : Prop := match o with
  | some a => F a
  | none => False
theorem j1i_s {st : List Value} {F : Int32 → List Value → Prop} (h : j1i st F) : ∃ x r, st = .int x :: r ∧ F x r := by
  unfold j1i at h; split at h
  · exact ⟨_, _, rfl, h⟩
  · exact h.elim
theorem j1r_s {st : List Value} {F : Nat → List Value → Prop} (h : j1r st F) : ∃ x r, st = .ref x :: r ∧ F x r := by
  unfold j1r at h; split at h
  · exact ⟨_, _, rfl, h⟩
  · exact h.elim
theorem j1l_s {st : List Value} {F : Int64 → List Value → Prop} (h : j1l st F) : ∃ x r, st = .long x :: r ∧ F x r := by
  unfold j1l at h; split at h
  · exact ⟨_, _, rfl, h⟩
  · exact h.elim
theorem j2i_s {st : List Value} {F : Int32 → Int32 → List Value → Prop} (h : j2i st F) : ∃ x y r, st = .int y :: .int x :: r ∧ F x y r := by
  unfold j2i at h; split at h
  · exact ⟨_, _, _, rfl, h⟩
  · exact h.elim
theorem j2l_s {st : List Value} {F : Int64 → Int64 → List Value → Prop} (h : j2l st F) : ∃ x y r, st = .long y :: .long x :: r ∧ F x y r := by
  unfold j2l at h; split at h
  · exact ⟨_, _, _, rfl, h⟩
  · exact h.elim
theorem jil_s {st : List Value} {F : Int64 → Int32 → List Value → Prop} (h : jil st F) : ∃ x y r, st = .int y :: .long x :: r ∧ F x y r := by
  unfold jil at h; split at h
  · exact ⟨_, _, _, rfl, h⟩
  · exact h.elim
theorem jia_s {st : List Value} {F : Nat → Int32 → List Value → Prop} (h : jia st F) : ∃ a j r, st = .int j :: .ref a :: r ∧ F a j r := by
  unfold jia at h; split at h
  · exact ⟨_, _, _, rfl, h⟩
  · exact h.elim
theorem jiia_s {st : List Value} {F : Nat → Int32 → Int32 → List Value → Prop} (h : jiia st F) : ∃ a j x r, st = .int x :: .int j :: .ref a :: r ∧ F a j x r := by
  unfold jiia at h; split at h
  · exact ⟨_, _, _, _, rfl, h⟩
  · exact h.elim
theorem jlia_s {st : List Value} {F : Nat → Int32 → Int64 → List Value → Prop} (h : jlia st F) : ∃ a j x r, st = .long x :: .int j :: .ref a :: r ∧ F a j x r := by
  unfold jlia at h; split at h
  · exact ⟨_, _, _, _, rfl, h⟩
  · exact h.elim
theorem jgi_s {o : Option (Option Value)} {F : Int32 → Prop} (h : jgi o F) : ∃ x, o = some (some (.int x)) ∧ F x := by
  unfold jgi at h; split at h
  · exact ⟨_, rfl, h⟩
  · exact h.elim
theorem jgl_s {o : Option (Option Value)} {F : Int64 → Prop} (h : jgl o F) : ∃ x, o = some (some (.long x)) ∧ F x := by
  unfold jgl at h; split at h
  · exact ⟨_, rfl, h⟩
  · exact h.elim
theorem jgr_s {o : Option (Option Value)} {F : Nat → Prop} (h : jgr o F) : ∃ x, o = some (some (.ref x)) ∧ F x := by
  unfold jgr at h; split at h
  · exact ⟨_, rfl, h⟩
  · exact h.elim
theorem jar_s {o : Option jC} {t : Nat} {F : Nat → (Nat → Int32) → Prop} (h : jar o t F) : ∃ n f, o = some (.inl (t, n, .inl f)) ∧ F n f := by
  unfold jar at h; split at h
  · obtain ⟨rfl, h⟩ := h; exact ⟨_, _, rfl, h⟩
  · exact h.elim
theorem jal_s {o : Option jC} {F : Nat → (Nat → Int64) → Prop} (h : jal o F) : ∃ n f, o = some (.inl (2, n, .inr f)) ∧ F n f := by
  unfold jal at h; split at h
  · obtain ⟨rfl, h⟩ := h; exact ⟨_, _, rfl, h⟩
  · exact h.elim
theorem job_s {o : Option jC} {k : Nat} {F : List Value → Prop} (h : job o k F) : ∃ fs, o = some (.inr (k, fs)) ∧ F fs := by
  unfold job at h; split at h
  · obtain ⟨rfl, h⟩ := h; exact ⟨_, rfl, h⟩
  · exact h.elim
theorem jso_s {α : Type} {o : Option α} {F : α → Prop} (h : jso o F) : ∃ a, o = some a ∧ F a := by
  unfold jso at h; split at h
  · exact ⟨_, rfl, h⟩
  · exact h.elim
def jcnd : ClassFile.Cond → Int32 → Int32 → Prop
  | .eq, x, y => x = y
  | .ne, x, y => ¬ x = y
  | .lt, x, y => x < y
  | .ge, x, y => y ≤ x
  | .gt, x, y => y < x
  | .le, x, y => x ≤ y
/-- at most four values -/
def jrest : List Value → Bool
  | [] => true
  | [_] => true
  | [_, _] => true
  | [_, _, _] => true
  | [_, _, _, _] => true
  | _ => false
theorem jrest_s {r : List Value} (h : jrest r = true) : (r.map fun v => v.category).sum ≤ 8 := by
  have hc : ∀ v : Value, v.category ≤ 2 := fun v => by cases v <;> simp [Value.category]
  match r, h with
  | [], _ => simp
  | [a], _ => simp; have := hc a; omega
  | [a, b], _ => simp; have := hc a; have := hc b; omega
  | [a, b, c], _ => simp; have := hc a; have := hc b; have := hc c; omega
  | [a, b, c, d], _ => simp; have := hc a; have := hc b; have := hc c; have := hc d; omega
/-- the callee's room in the caller's -/
def jfit (i k c s : Nat) : Bool := decide ((jm k).frames + 1 ≤ (jm i).frames) && decide (8 + (jl k + 11) + (jm k).locals ≤ (jm i).locals) && decide (c + (jm k).cells ≤ (jm i).cells) && decide (s + (jm k).slots ≤ (jm i).slots)
def jtake : Nat → List Value → List Value → Option (List Value × List Value)
  | 0, acc, st => some (acc, st)
  | n + 1, acc, v :: st => jtake n (v :: acc) st
  | _ + 1, _, [] => none
theorem jtake_s : ∀ (n : Nat) (acc st as r : List Value), jtake n acc st = some (as, r) → ∃ bs, bs.length = n ∧ st = bs.reverse ++ r ∧ as = bs ++ acc
  | 0, acc, st, as, r, h => by cases h; exact ⟨[], rfl, rfl, rfl⟩
  | n + 1, acc, v :: st, as, r, h => by
    obtain ⟨bs, h1, h2, h3⟩ := jtake_s n (v :: acc) st as r h
    refine ⟨bs ++ [v], by simp [h1], by simp [h2], by simp [h3]⟩
  | n + 1, acc, [], as, r, h => by cases h
/-- the callee's locals at its entry -/
def jent : List Value → List (Option Value)
  | [] => []
  | .long x :: r => some (.long x) :: none :: jent r
  | .double x :: r => some (.double x) :: none :: jent r
  | v :: r => some v :: jent r
def jpad (n : Nat) (l : List (Option Value)) : List (Option Value) := l ++ List.replicate (n - l.length) none
/-- all references below n (or the script's) -/
def jwfv (n : Nat) : Value → Bool
  | .ref k => decide (k < n) || k == 9999
  | _ => true
def jwf (n : Nat) (loc : List (Option Value)) (st : List Value) : Bool := loc.all (fun o => match o with | some v => jwfv n v | none => true) && st.all (jwfv n)
def jwfh (n : Nat) (h : List jC) : Bool := h.all (fun c => match c with | .inl _ => true | .inr o => o.2.all (jwfv n))
/-- long constants -/
def jlong (i x : Nat) : Option Int64 := if jo i = 3 ∧ x = 211 then some 15 else if jo i = 5 ∧ x = 137 then some 4294967295 else none
/-- kinds of fields: 0 a number, 1 a reference that is set once -/
def jfk (k f : Nat) : Nat := if (((jCl[k]?).getD ("", jT0, 0)).2.1 f).2.2.2 = true then 1 else 0
/-- a new object's fields -/
def jdef (k : Nat) : List Value := (List.range ((jCl[k]?).getD ("", jT0, 0)).2.2).map (fun f => if jfk k f = 0 then .int 0 else .null)
abbrev jK : Type := Nat → List (Option Value) → List Value → List jC → Nat → Nat → Prop
/-- a callee's end, seen by its caller -/
def jback (i pc nx k : Nat) (loc : List (Option Value)) (r : List Value) (h : List jC) (c s : Nat) (K : jK) (Q : jO → List jC → Prop) : jO → List jC → Prop := fun o h' =>
  match o with
  | .inl v => (h'.length = h.length ∨ jwf h.length loc r = true) ∧ K nx loc (v.toList ++ r) h' (c + jrc k) (s + jrs k)
  | .inr X => (h'.length = h.length ∨ jwf h.length loc r = true) ∧ match jhan i pc X with
    | some q => jso (jcd i q) (fun z => match z.1 with
      | .astore j => jfree loc j = true ∧ K z.2 (loc.set j none) [] h' (c + (jm k).cells) (s + (jm k).slots)
      | _ => False)
    | none => (jh i).isEmpty = true ∧ Q (.inr X) h'
def jcall (l : Launch) (E : jEnv) (i pc x nx : Nat) (loc : List (Option Value)) (st : List Value) (h : List jC) (c s : Nat) (K : jK) (Q : jO → List jC → Prop) (kinds : List Nat) : Prop :=
  jso (jcal i x) fun q => q.1 ∈ kinds ∧ jso (jtake (jp q.2 + (if q.1 = 1 ∨ q.1 = 4 ∨ q.1 = 6 then 0 else 1)) [] st) fun a =>
    jrest a.2 = true ∧ jfit i q.2 c s = true ∧ (jent a.1).length ≤ jl q.2 ∧ (q.1 = 0 → jso a.1[0]? fun v => match v with
      | .ref b => job h[b]? (jo q.2) fun _ => True
      | _ => False) ∧ (q.1 = 2 ∨ q.1 = 5 → jso a.1[0]? fun v => match v with
      | .ref _ => True
      | _ => False) ∧ GO l E q.2 0 (jpad (jl q.2) (jent a.1)) [] h 0 0 (jback i pc nx q.2 loc a.2 h c s K Q)
def jop (l : Launch) (E : jEnv) (i pc : Nat) (ins : Instr) (nx : Nat) (loc : List (Option Value)) (st : List Value) (h : List jC) (c s : Nat) (K : jK) (Q : jO → List jC → Prop) : Prop := match ins with
  | .iload k => jgi loc[k]? fun x => K nx loc (.int x :: st) h c s
  | .lload k => jgl loc[k]? fun x => K nx loc (.long x :: st) h c s
  | .aload k => jgr loc[k]? fun x => K nx loc (.ref x :: st) h c s
  | .istore k => j1i st fun x r => jfree loc k = true ∧ K nx (loc.set k (some (.int x))) r h c s
  | .astore k => j1r st fun x r => jfree loc k = true ∧ K nx (loc.set k (some (.ref x))) r h c s
  | .iinc k n => jgi loc[k]? fun x => jfree loc k = true ∧ K nx (loc.set k (some (.int (x + Int32.ofInt n)))) st h c s
  | .iconst n => K nx loc (.int (Int32.ofInt n) :: st) h c s
  | .bipush n => K nx loc (.int (Int8.ofInt n).toInt32 :: st) h c s
  | .sipush n => K nx loc (.int (Int16.ofInt n).toInt32 :: st) h c s
  | .lconst n => K nx loc (.long (Int64.ofNat n.val) :: st) h c s
  | .ldc2_w x => jso (jlong i x) fun v => K nx loc (.long v :: st) h c s
  | .iadd => j2i st fun x y r => K nx loc (.int (x + y) :: r) h c s
  | .isub => j2i st fun x y r => K nx loc (.int (x - y) :: r) h c s
  | .imul => j2i st fun x y r => K nx loc (.int (x * y) :: r) h c s
  | .iand => j2i st fun x y r => K nx loc (.int (x &&& y) :: r) h c s
  | .ior => j2i st fun x y r => K nx loc (.int (x ||| y) :: r) h c s
  | .ixor => j2i st fun x y r => K nx loc (.int (x ^^^ y) :: r) h c s
  | .ishl => j2i st fun x y r => K nx loc (.int (x <<< (y &&& 31)) :: r) h c s
  | .ishr => j2i st fun x y r => K nx loc (.int (x >>> (y &&& 31)) :: r) h c s
  | .idiv => j2i st fun x y r => ¬ y = 0 ∧ K nx loc (.int (x / y) :: r) h c s
  | .irem => j2i st fun x y r => ¬ y = 0 ∧ K nx loc (.int (x - x / y * y) :: r) h c s
  | .i2l => j1i st fun x r => K nx loc (.long x.toInt64 :: r) h c s
  | .l2i => j1l st fun x r => K nx loc (.int x.toInt32 :: r) h c s
  | .land => j2l st fun x y r => K nx loc (.long (x &&& y) :: r) h c s
  | .lor => j2l st fun x y r => K nx loc (.long (x ||| y) :: r) h c s
  | .lshl => jil st fun x y r => K nx loc (.long (x <<< (y.toInt64 &&& 63)) :: r) h c s
  | .lshr => jil st fun x y r => K nx loc (.long (x >>> (y.toInt64 &&& 63)) :: r) h c s
  | .lushr => jil st fun x y r => K nx loc (.long (x.toUInt64 >>> (y.toInt64.toUInt64 &&& Int64.toUInt64 63)).toInt64 :: r) h c s
  | .lcmp => j2l st fun x y r => K nx loc (.int (lg_cmp x y) :: r) h c s
  | .dup => j1r st fun a r => K nx loc (.ref a :: .ref a :: r) h c s
  | .dup2 => jia st fun a j r => K nx loc (.int j :: .ref a :: .int j :: .ref a :: r) h c s
  | .goto t => K t.toNat loc st h c s
  | .ifCond cd t => j1i st fun x r => (jcnd cd x 0 → K t.toNat loc r h c s) ∧ (¬ jcnd cd x 0 → K nx loc r h c s)
  | .if_icmp cd t => j2i st fun x y r => (jcnd cd x y → K t.toNat loc r h c s) ∧ (¬ jcnd cd x y → K nx loc r h c s)
  | .tableswitch d lo hi ts => j1i st fun x r => (∀ (k : Nat) (t : Int), ts.toList[k]? = some t → x.toInt = lo + k → K t.toNat loc r h c s) ∧ (x.toInt < lo ∨ hi < x.toInt → K d.toNat loc r h c s)
  | .getfield x => j1r st fun a r => jso (jfld i x) fun q => job h[a]? q.1 fun fs => jso fs[q.2]? fun v => K nx loc (v :: r) h c s
  | .putfield x => match st with
    | .int v :: .ref a :: r => jso (jfld i x) fun q => jfk q.1 q.2 = 0 ∧ job h[a]? q.1 fun fs => q.2 < fs.length ∧ K nx loc r (h.set a (.inr (q.1, fs.set q.2 (.int v)))) c s
    | .ref v :: .ref a :: r => jso (jfld i x) fun q => jfk q.1 q.2 = 1 ∧ (jn i).name = "<init>" ∧ jo i = q.1 ∧ job h[a]? q.1 fun fs => q.2 < fs.length ∧ K nx loc r (h.set a (.inr (q.1, fs.set q.2 (.ref v)))) c s
    | _ => False
  | .iaload => jia st fun a j r => (a = 9999 ∧ vp_in j E.2.2.2.2.2.1 ∧ K nx loc (.int (E.2.2.2.2.2.2 j.toNatClampNeg) :: r) h c s) ∨ (jar h[a]? 0 fun n f => vp_in j n ∧ K nx loc (.int (f j.toNatClampNeg) :: r) h c s)
  | .baload => jia st fun a j r => jar h[a]? 1 fun n f => vp_in j n ∧ K nx loc (.int (f j.toNatClampNeg) :: r) h c s
  | .laload => jia st fun a j r => jal h[a]? fun n f => vp_in j n ∧ K nx loc (.long (f j.toNatClampNeg) :: r) h c s
  | .iastore => jiia st fun a j x r => jar h[a]? 0 fun n f => vp_in j n ∧ K nx loc r (h.set a (.inl (0, n, .inl (upd f j.toNatClampNeg x)))) c s
  | .bastore => jiia st fun a j x r => jar h[a]? 1 fun n f => vp_in j n ∧ K nx loc r (h.set a (.inl (1, n, .inl (upd f j.toNatClampNeg (x &&& 1))))) c s
  | .lastore => jlia st fun a j x r => jal h[a]? fun n f => vp_in j n ∧ K nx loc r (h.set a (.inl (2, n, .inr (vp_updL f j.toNatClampNeg x)))) c s
  | .arraylength => j1r st fun a r => (a = 9999 ∧ K nx loc (.int (Int32.ofNat E.2.2.2.2.2.1) :: r) h c s) ∨ (jar h[a]? 0 fun n _ => K nx loc (.int (Int32.ofNat n) :: r) h c s)
  | .ireturn => match st with
    | [.int v] => (jr i = some .boolean → v &&& 1 = v) ∧ c ≤ jrc i ∧ s ≤ jrs i ∧ Q (.inl (some (.int v))) h
    | _ => False
  | .return_ => match st with
    | [] => c ≤ jrc i ∧ s ≤ jrs i ∧ Q (.inl none) h
    | _ => False
  | .invokevirtual x => jcall l E i pc x nx loc st h c s K Q [0]
  | .invokestatic x => jcall l E i pc x nx loc st h c s K Q [1, 4, 6]
  | .invokespecial x => match jobj i x with
    | true => j1r st fun _ r => jrest r = true ∧ 1 ≤ (jm i).frames ∧ 20 ≤ (jm i).locals ∧ K nx loc r h c s
    | false => jcall l E i pc x nx loc st h c s K Q [2, 5]
  | .new x => match jthr i pc with
    | some q => jrest st = true ∧ 6 ≤ (jm i).frames ∧ 90 ≤ (jm i).locals ∧ c + 1 ≤ (jm i).cells ∧ s + 6 ≤ (jm i).slots ∧ Q (.inr q.2.2.2.1) h
    | none => jso (jnew i x) fun k => jwf h.length loc st = true ∧ jwfh h.length h = true ∧ h.length < 9999 ∧ c + 1 ≤ (jm i).cells ∧ s + (jdef k).length ≤ (jm i).slots ∧ K nx loc (.ref h.length :: st) (h ++ [.inr (k, jdef k)]) (c + 1) (s + (jdef k).length)
  | .newarray t => j1i st fun n r => jwf h.length loc r = true ∧ jwfh h.length h = true ∧ h.length < 9999 ∧ ¬ n < 0 ∧ n.toNatClampNeg ≤ 100000 ∧ c + 1 ≤ (jm i).cells ∧ s + n.toNatClampNeg ≤ (jm i).slots ∧
      match t with
      | .int => K nx loc (.ref h.length :: r) (h ++ [.inl (0, n.toNatClampNeg, .inl fun _ => 0)]) (c + 1) (s + n.toNatClampNeg)
      | .boolean => K nx loc (.ref h.length :: r) (h ++ [.inl (1, n.toNatClampNeg, .inl fun _ => 0)]) (c + 1) (s + n.toNatClampNeg)
      | .long => K nx loc (.ref h.length :: r) (h ++ [.inl (2, n.toNatClampNeg, .inr fun _ => 0)]) (c + 1) (s + n.toNatClampNeg)
      | _ => False
  | _ => False
end
section
def jY (k f : Nat) : FieldType := (jYs.getD k (fun _ => .int)) f
def jrt : FieldType → Bool
  | .object _ => true
  | .array _ => true
  | _ => false
theorem jcl_facts {k : Nat} {r : vw_C} (h : jCl[k]? = some r) : (∀ f, f < r.2.2 → parseFieldDescriptor (r.2.1 f).2.2.1 = some (jY k f)) ∧ (∀ a, a < r.2.2 → ∀ b, b < r.2.2 → a ≠ b → (r.2.1 a).2.1 ≠ (r.2.1 b).2.1) ∧ (∀ f, f < r.2.2 → (r.2.1 f).2.2.2 = false → jY k f = .int) ∧ (∀ f, f < r.2.2 → (r.2.1 f).2.2.2 = true → jrt (jY k f) = true) ∧ (∀ f, f < r.2.2 → (r.2.1 f).1 = jcn k) ∧ r.1 = jcn k := by
  match k, h with
  | 0, h => cases h; exact ⟨by decide +kernel, by decide +kernel, by decide +kernel, by decide +kernel, by decide +kernel, by decide +kernel⟩
  | 1, h => cases h; exact ⟨by decide +kernel, by decide +kernel, by decide +kernel, by decide +kernel, by decide +kernel, by decide +kernel⟩
  | 2, h => cases h; exact ⟨by decide +kernel, by decide +kernel, by decide +kernel, by decide +kernel, by decide +kernel, by decide +kernel⟩
  | 3, h => cases h; exact ⟨by decide +kernel, by decide +kernel, by decide +kernel, by decide +kernel, by decide +kernel, by decide +kernel⟩
  | 4, h => cases h; exact ⟨by decide +kernel, by decide +kernel, by decide +kernel, by decide +kernel, by decide +kernel, by decide +kernel⟩
  | k + 5, h => simp [jCl] at h
theorem jfk_0 {k f : Nat} {r : vw_C} (h : jCl[k]? = some r) (hf : jfk k f = 0) : (r.2.1 f).2.2.2 = false := by
  unfold jfk at hf
  rw [h] at hf
  cases hb : (r.2.1 f).2.2.2 with
  | false => rfl
  | true => rw [if_pos (by simpa using hb)] at hf; cases hf
theorem jfk_1 {k f : Nat} {r : vw_C} (h : jCl[k]? = some r) (hf : jfk k f = 1) : (r.2.1 f).2.2.2 = true := by
  unfold jfk at hf
  rw [h] at hf
  cases hb : (r.2.1 f).2.2.2 with
  | true => rfl
  | false => rw [if_neg (by simp [hb])] at hf; cases hf
theorem jfld_ok {i x k f : Nat} (h : jfld i x = some (k, f)) : ∃ r : vw_C, jCl[k]? = some r ∧ f < r.2.2 ∧ Cond.fieldLink (jcn (jo i)) x (r.2.1 f).1 (r.2.1 f).2.1 (r.2.1 f).2.2.1 ∈ jGW ∧ ∀ w ∈ u_ws r.1 r.2.1 r.2.2, w ∈ jGW := by
  obtain ⟨a, h1, h2⟩ := jfind (f := fun a => a == (jo i, x)) (show (jFL.find? (fun q => q.1 == (jo i, x))).map (fun q => q.2) = some (k, f) from h)
  have ha : a = (jo i, x) := by simpa using h2
  subst ha
  have hn := jF_n _ h1
  have hw := jF_all _ (List.mem_map.mpr ⟨_, h1, rfl⟩)
  dsimp only at hn
  cases hr : jCl[k]? with
  | none => rw [hr] at hn; exact absurd hn (Nat.not_lt_zero _)
  | some r =>
    rw [hr] at hn
    refine ⟨r, rfl, hn, ?_, jlay r (List.mem_of_getElem? hr)⟩
    have e : jFw ((jo i, x), k, f) = Cond.fieldLink (jcn (jo i)) x (r.2.1 f).1 (r.2.1 f).2.1 (r.2.1 f).2.2.1 := by
      simp only [jFw, hr]
    rw [e] at hw
    exact hw
theorem jthr_ok {i pc : Nat} {q : Nat × Nat × Nat × String × String} (h : jthr i pc = some q) : ((i, pc), q) ∈ jXL := by
  obtain ⟨a, h1, h2⟩ := jfind (f := fun a => a == (i, pc)) (show (jXL.find? (fun q => q.1 == (i, pc))).map (fun q => q.2) = some q from h)
  have ha : a = (i, pc) := by simpa using h2
  subst ha
  exact h1
theorem jcal_ok {i x : Nat} {q : Nat × Nat} (h : jcal i x = some q) : ((jo i, x), q) ∈ jCL := by
  obtain ⟨a, h1, h2⟩ := jfind (f := fun a => a == (jo i, x)) (show (jCL.find? (fun q => q.1 == (jo i, x))).map (fun q => q.2) = some q from h)
  have ha : a = (jo i, x) := by simpa using h2
  subst ha
  exact h1
theorem jnew_ok {i x k : Nat} (h : jnew i x = some k) : ((jo i, x), k) ∈ jNL := by
  obtain ⟨a, h1, h2⟩ := jfind (f := fun a => a == (jo i, x)) (show (jNL.find? (fun q => q.1 == (jo i, x))).map (fun q => q.2) = some k from h)
  have ha : a = (jo i, x) := by simpa using h2
  subst ha
  exact h1
theorem jN_all : ∀ q ∈ jNL, jgood (Cond.classLink (jcn q.1.1) q.1.2 (jcn q.2)) = true ∧ jgood (Cond.instantiable (jcn q.2) (jdef q.2).length) = true ∧ jgood (Cond.initialized (jcn q.2)) = true ∧ q.2 < 5 := by decide +kernel
theorem jI_all : ∀ q ∈ jIL, jgood (Cond.methodLink (jcn q.1) q.2 objectInit) = true := by decide +kernel
theorem jI_o : jgood (Cond.instanceMethod objectInit) = true ∧ jgood (Cond.code objectInit ⟨#[0xb1]⟩ 1 none) = true := by decide +kernel
theorem jlong_ok {i x : Nat} {v : Int64} (h : jlong i x = some v) : Cond.constantLong (jcn (jo i)) x v ∈ jGW := by
  unfold jlong at h
  split at h
  · rename_i hq
    cases h
    rw [hq.1, hq.2]
    exact jgood_spec (by decide +kernel)
  · split at h
    · rename_i hq
      cases h
      rw [hq.1, hq.2]
      exact jgood_spec (by decide +kernel)
    · cases h
theorem jarr_ok : jgood (Cond.arrayClass .int) = true ∧ jgood (Cond.arrayClass .boolean) = true ∧ jgood (Cond.arrayClass .long) = true := by decide +kernel
end
section
section JS
variable {p : Program} {l : Launch} {e : Env} {R : Room} {s : State} {m : MethodId} {args : Array Value} {below : List Frame} {meth : Method} {c : Code} {H : Heap} {locs : List Loc} {cells slots : Nat}
theorem jret {E : jEnv} {Q : jO → List jC → Prop} {i : Nat} {al0 : Nat → Nat} {h0 : List jC} {g : JFrame} (k : W p l e R s m args below meth c H locs cells slots (MQ below (jQc E Q al0 h0) args s (jrc i) (jrs i) (jA E)) g) : W p l e R s m args below meth c H locs cells slots (jMQ E Q i al0 h0 below args s) g := by
  intro T hT X
  obtain ⟨t, a1, o, b1, b2, b3, b4⟩ := k T hT X
  exact ⟨t, a1, o, b1, b2, Or.inl ⟨b3, b4⟩⟩
end JS
set_option maxHeartbeats 4000000 in
theorem J_simple {l : Launch} {E : jEnv} {i pc : Nat} {raw : Instr} {len : Nat} {loc : List (Option Value)} {st : List Value} {h : List jC} {c s : Nat} {K : jK} {Q : jO → List jC → Prop}
    (hc : jcode i pc = some (raw, len)) (hj : jop l E i pc (jnorm pc raw) (pc + len) loc st h c s K Q) (hK : ∀ nx loc st h c s, K nx loc st h c s → GO l E i nx loc st h c s Q)
    (hn : match raw with | .invokevirtual _ | .invokestatic _ | .invokespecial _ | .new _ | .newarray _ => False | _ => True) : GO l E i pc loc st h c s Q := by
  intro p e S m args below meth cd C al0 h0 al H locs ls hE hH hS hl
  have go : ∀ {nx loc st h c s}, K nx loc st h c s → ∀ {H locs ls}, jExt al0 h0 al h → jHeap E al h H → va_S (jA E) S.heap H locs → lv_has ls (jl i) (jlv al loc) → W p l e (jm i) S m args below meth cd H locs c s (jMQ E Q i al0 h0 below args S) (F0 m nx ls (st.map (jt al))) :=
    fun {nx loc st h c s} hk {H locs ls} a1 a2 a3 a4 => hK nx loc st h c s hk p e S m args below meth cd C al0 h0 al H locs ls a1 a2 a3 a4
  obtain ⟨hx, hb, hml, hr, hown, hts, htab, hlk, hini, hB, hst⟩ := id C
  have hd := jdec hc
  have ck := jchk_of hc
  obtain ⟨hP, hD, hb9⟩ := id hH
  have hKs := hB.1
  cases raw with
  | iload_n n =>
    simp only [jchk, beq_iff_eq] at ck; subst ck
    obtain ⟨x, hg, hj⟩ := jgi_s hj
    exact lv_iload_n hx hb hd rfl (jlv_at hl hg) (go hj hE hH hS hl)
  | iload n =>
    simp only [jchk, beq_iff_eq] at ck; subst ck
    obtain ⟨x, hg, hj⟩ := jgi_s hj
    exact lv_iload hx hb hd (jlv_at hl hg) (go hj hE hH hS hl)
  | lload_n n =>
    simp only [jchk, beq_iff_eq] at ck; subst ck
    obtain ⟨x, hg, hj⟩ := jgl_s hj
    exact lv_lload_n hx hb hd rfl (jlv_at hl hg) (go hj hE hH hS hl)
  | lload n =>
    simp only [jchk, beq_iff_eq] at ck; subst ck
    obtain ⟨x, hg, hj⟩ := jgl_s hj
    exact lv_lload hx hb hd (jlv_at hl hg) (go hj hE hH hS hl)
  | aload_n n =>
    simp only [jchk, beq_iff_eq] at ck; subst ck
    obtain ⟨x, hg, hj⟩ := jgr_s hj
    exact lv_aload_n hx hb hd rfl (jlv_at hl hg) (go hj hE hH hS hl)
  | aload n =>
    simp only [jchk, beq_iff_eq] at ck; subst ck
    obtain ⟨x, hg, hj⟩ := jgr_s hj
    exact lv_aload hx hb hd (jlv_at hl hg) (go hj hE hH hS hl)
  | istore_n n =>
    simp only [jchk, Bool.and_eq_true, beq_iff_eq, decide_eq_true_eq] at ck; obtain ⟨ck, ck2⟩ := ck; subst ck
    obtain ⟨x, r, rfl, hf, hj⟩ := j1i_s hj
    exact lv_istore_n hx hb hd rfl hl ck2 rfl (fun ls' hl' => go hj hE hH hS (jlv_put (v := .int x) hf hl'))
  | istore n =>
    simp only [jchk, Bool.and_eq_true, beq_iff_eq, decide_eq_true_eq] at ck; obtain ⟨ck, ck2⟩ := ck; subst ck
    obtain ⟨x, r, rfl, hf, hj⟩ := j1i_s hj
    exact lv_istore hx hb hd hl ck2 rfl (fun ls' hl' => go hj hE hH hS (jlv_put (v := .int x) hf hl'))
  | astore_n n =>
    simp only [jchk, Bool.and_eq_true, beq_iff_eq, decide_eq_true_eq] at ck; obtain ⟨ck, ck2⟩ := ck; subst ck
    obtain ⟨x, r, rfl, hf, hj⟩ := j1r_s hj
    exact lv_astore_n hx hb hd rfl hl ck2 rfl (fun ls' hl' => go hj hE hH hS (jlv_put (v := .ref x) hf hl'))
  | astore n =>
    simp only [jchk, Bool.and_eq_true, beq_iff_eq, decide_eq_true_eq] at ck; obtain ⟨ck, ck2⟩ := ck; subst ck
    obtain ⟨x, r, rfl, hf, hj⟩ := j1r_s hj
    exact lv_astore hx hb hd hl ck2 rfl (fun ls' hl' => go hj hE hH hS (jlv_put (v := .ref x) hf hl'))
  | iinc k n =>
    simp only [jchk, Bool.and_eq_true, beq_iff_eq, decide_eq_true_eq] at ck; obtain ⟨ck, ck2⟩ := ck; subst ck
    obtain ⟨x, hg, hf, hj⟩ := jgi_s hj
    obtain ⟨q, hq⟩ := List.getElem?_of_mem (jlv_mem (al := al) hg)
    exact lv_iinc hx hb hd hl hq rfl ck2 rfl (fun ls' hl' => go hj hE hH hS (jlv_put (v := .int (x + Int32.ofInt n)) hf hl'))
  | iconst n =>
    simp only [jchk, beq_iff_eq] at ck; subst ck
    exact lv_iconst hx hb hd rfl (go hj hE hH hS hl)
  | bipush n =>
    simp only [jchk, beq_iff_eq] at ck; subst ck
    exact lv_bipush hx hb hd rfl (go hj hE hH hS hl)
  | sipush n =>
    simp only [jchk, beq_iff_eq] at ck; subst ck
    exact lv_sipush hx hb hd rfl (go hj hE hH hS hl)
  | lconst n =>
    simp only [jchk, beq_iff_eq] at ck; subst ck
    exact lv_lconst hx hb hd rfl (go hj hE hH hS hl)
  | ldc2_w n =>
    simp only [jchk, beq_iff_eq] at ck; subst ck
    obtain ⟨v, hv, hj⟩ := jso_s hj
    exact lv_ldc2 hx hb hown (hts _ (jlong_ok hv)) hd (go hj hE hH hS hl)
  | iadd =>
    simp only [jchk, beq_iff_eq] at ck; subst ck
    obtain ⟨x, y, r, rfl, hj⟩ := j2i_s hj
    exact lv_iadd hx hb hd (go hj hE hH hS hl)
  | isub =>
    simp only [jchk, beq_iff_eq] at ck; subst ck
    obtain ⟨x, y, r, rfl, hj⟩ := j2i_s hj
    exact lv_isub hx hb hd (go hj hE hH hS hl)
  | imul =>
    simp only [jchk, beq_iff_eq] at ck; subst ck
    obtain ⟨x, y, r, rfl, hj⟩ := j2i_s hj
    exact lv_imul hx hb hd (go hj hE hH hS hl)
  | iand =>
    simp only [jchk, beq_iff_eq] at ck; subst ck
    obtain ⟨x, y, r, rfl, hj⟩ := j2i_s hj
    exact lv_iand hx hb hd (go hj hE hH hS hl)
  | ior =>
    simp only [jchk, beq_iff_eq] at ck; subst ck
    obtain ⟨x, y, r, rfl, hj⟩ := j2i_s hj
    exact lv_ior hx hb hd (go hj hE hH hS hl)
  | ixor =>
    simp only [jchk, beq_iff_eq] at ck; subst ck
    obtain ⟨x, y, r, rfl, hj⟩ := j2i_s hj
    exact lv_ixor hx hb hd (go hj hE hH hS hl)
  | ishl =>
    simp only [jchk, beq_iff_eq] at ck; subst ck
    obtain ⟨x, y, r, rfl, hj⟩ := j2i_s hj
    exact lv_ishl hx hb hd (go hj hE hH hS hl)
  | ishr =>
    simp only [jchk, beq_iff_eq] at ck; subst ck
    obtain ⟨x, y, r, rfl, hj⟩ := j2i_s hj
    exact lv_ishr hx hb hd (go hj hE hH hS hl)
  | idiv =>
    simp only [jchk, beq_iff_eq] at ck; subst ck
    obtain ⟨x, y, r, rfl, hz, hj⟩ := j2i_s hj
    exact lv_idiv hx hb hd hz (go hj hE hH hS hl)
  | irem =>
    simp only [jchk, beq_iff_eq] at ck; subst ck
    obtain ⟨x, y, r, rfl, hz, hj⟩ := j2i_s hj
    exact lv_irem hx hb hd hz (go hj hE hH hS hl)
  | i2l =>
    simp only [jchk, beq_iff_eq] at ck; subst ck
    obtain ⟨x, r, rfl, hj⟩ := j1i_s hj
    exact lv_i2l hx hb hd rfl (go hj hE hH hS hl)
  | l2i =>
    simp only [jchk, beq_iff_eq] at ck; subst ck
    obtain ⟨x, r, rfl, hj⟩ := j1l_s hj
    exact lv_l2i hx hb hd rfl (go hj hE hH hS hl)
  | land =>
    simp only [jchk, beq_iff_eq] at ck; subst ck
    obtain ⟨x, y, r, rfl, hj⟩ := j2l_s hj
    exact lv_land hx hb hd (go hj hE hH hS hl)
  | lor =>
    simp only [jchk, beq_iff_eq] at ck; subst ck
    obtain ⟨x, y, r, rfl, hj⟩ := j2l_s hj
    exact lv_lor hx hb hd (go hj hE hH hS hl)
  | lshl =>
    simp only [jchk, beq_iff_eq] at ck; subst ck
    obtain ⟨x, y, r, rfl, hj⟩ := jil_s hj
    exact lv_lshl hx hb hd rfl (go hj hE hH hS hl)
  | lshr =>
    simp only [jchk, beq_iff_eq] at ck; subst ck
    obtain ⟨x, y, r, rfl, hj⟩ := jil_s hj
    exact lv_lshr hx hb hd rfl (go hj hE hH hS hl)
  | lushr =>
    simp only [jchk, beq_iff_eq] at ck; subst ck
    obtain ⟨x, y, r, rfl, hj⟩ := jil_s hj
    exact lv_lushr hx hb hd rfl (go hj hE hH hS hl)
  | lcmp =>
    simp only [jchk, beq_iff_eq] at ck; subst ck
    obtain ⟨x, y, r, rfl, hj⟩ := j2l_s hj
    exact W.lcmp hx hb hd (go hj hE hH hS hl)
  | dup =>
    simp only [jchk, beq_iff_eq] at ck; subst ck
    obtain ⟨a, r, rfl, hj⟩ := j1r_s hj
    exact lv_dup hx hb hd rfl (go hj hE hH hS hl)
  | dup2 =>
    simp only [jchk, beq_iff_eq] at ck; subst ck
    obtain ⟨a, j, r, rfl, hj⟩ := jia_s hj
    exact lv_dup2_11 hx hb hd rfl rfl (go hj hE hH hS hl)
  | goto o =>
    simp only [jchk, Bool.and_eq_true, beq_iff_eq, decide_eq_true_eq] at ck; obtain ⟨ck, ck2⟩ := ck; subst ck
    exact lv_goto (tgt := ((pc : Int) + o).toNat) hx hb hd (Int.toNat_of_nonneg ck2).symm (go hj hE hH hS hl)
  | ifCond cn o =>
    simp only [jchk, Bool.and_eq_true, beq_iff_eq, decide_eq_true_eq] at ck; obtain ⟨ck, ck2⟩ := ck; subst ck
    obtain ⟨x, r, rfl, hj1, hj2⟩ := j1i_s hj
    have ht : (pc : Int) + o = ((((pc : Int) + o).toNat : Nat) : Int) := (Int.toNat_of_nonneg ck2).symm
    cases cn with
    | eq => exact lv_if_eq (tgt := ((pc : Int) + o).toNat) hx hb hd ht (fun q => go (hj1 q) hE hH hS hl) (fun q => go (hj2 q) hE hH hS hl)
    | ne => exact lv_if_ne (tgt := ((pc : Int) + o).toNat) hx hb hd ht (fun q => go (hj1 q) hE hH hS hl) (fun q => go (hj2 (fun z => z q)) hE hH hS hl)
    | lt => exact lv_if_lt (tgt := ((pc : Int) + o).toNat) hx hb hd ht (fun q => go (hj1 q) hE hH hS hl) (fun q => go (hj2 q) hE hH hS hl)
    | ge => exact lv_if_ge (tgt := ((pc : Int) + o).toNat) hx hb hd ht (fun q => go (hj1 q) hE hH hS hl) (fun q => go (hj2 q) hE hH hS hl)
    | gt => exact lv_if_gt (tgt := ((pc : Int) + o).toNat) hx hb hd ht (fun q => go (hj1 q) hE hH hS hl) (fun q => go (hj2 q) hE hH hS hl)
    | le => exact lv_if_le (tgt := ((pc : Int) + o).toNat) hx hb hd ht (fun q => go (hj1 q) hE hH hS hl) (fun q => go (hj2 q) hE hH hS hl)
  | if_icmp cn o =>
    simp only [jchk, Bool.and_eq_true, beq_iff_eq, decide_eq_true_eq] at ck; obtain ⟨ck, ck2⟩ := ck; subst ck
    obtain ⟨x, y, r, rfl, hj1, hj2⟩ := j2i_s hj
    have ht : (pc : Int) + o = ((((pc : Int) + o).toNat : Nat) : Int) := (Int.toNat_of_nonneg ck2).symm
    cases cn with
    | eq => exact lv_icmp_eq (tgt := ((pc : Int) + o).toNat) hx hb hd ht (fun q => go (hj1 q) hE hH hS hl) (fun q => go (hj2 q) hE hH hS hl)
    | ne => exact lv_icmp_ne (tgt := ((pc : Int) + o).toNat) hx hb hd ht (fun q => go (hj1 q) hE hH hS hl) (fun q => go (hj2 (fun z => z q)) hE hH hS hl)
    | lt => exact lv_icmp_lt (tgt := ((pc : Int) + o).toNat) hx hb hd ht (fun q => go (hj1 q) hE hH hS hl) (fun q => go (hj2 q) hE hH hS hl)
    | ge => exact lv_icmp_ge (tgt := ((pc : Int) + o).toNat) hx hb hd ht (fun q => go (hj1 q) hE hH hS hl) (fun q => go (hj2 q) hE hH hS hl)
    | gt => exact lv_icmp_gt (tgt := ((pc : Int) + o).toNat) hx hb hd ht (fun q => go (hj1 q) hE hH hS hl) (fun q => go (hj2 q) hE hH hS hl)
    | le => exact lv_icmp_le (tgt := ((pc : Int) + o).toNat) hx hb hd ht (fun q => go (hj1 q) hE hH hS hl) (fun q => go (hj2 q) hE hH hS hl)
  | tableswitch d lo hi offs =>
    simp only [jchk, Bool.and_eq_true, beq_iff_eq, decide_eq_true_eq, List.all_eq_true] at ck
    obtain ⟨⟨⟨⟨⟨ck1, ck2⟩, ck3⟩, ck4⟩, ck5⟩, ck6⟩ := ck
    obtain ⟨x, r, rfl, hj1, hj2⟩ := j1i_s hj
    by_cases hin : x.toInt < lo ∨ hi < x.toInt
    · exact lv_tableOut (tgt := ((pc : Int) + d).toNat) hx hb hd hin (Int.toNat_of_nonneg ck1).symm (go (hj2 hin) hE hH hS hl)
    · have h1 : ¬ x.toInt < lo := fun z => hin (Or.inl z)
      have h2 : ¬ hi < x.toInt := fun z => hin (Or.inr z)
      obtain ⟨k, hk⟩ : ∃ k : Nat, x.toInt = lo + k := ⟨(x.toInt - lo).toNat, by omega⟩
      have hks : k < offs.size := by omega
      have ho : offs[(x.toInt - lo).toNat]? = some offs[k] := by
        rw [show (x.toInt - lo).toNat = k by omega]
        exact Array.getElem?_eq_getElem hks
      have hmem : offs[k] ∈ offs.toList := by simp
      refine lv_tableIn (tgt := ((pc : Int) + offs[k]).toNat) hx hb hd h1 h2 ho (Int.toNat_of_nonneg (ck2 _ hmem)).symm (go (hj1 k _ ?_ hk) hE hH hS hl)
      simp [hks]
  | getfield x =>
    simp only [jchk, beq_iff_eq] at ck; subst ck
    obtain ⟨a, r, rfl, hj⟩ := j1r_s hj
    obtain ⟨⟨k, f⟩, hq, hj⟩ := jso_s hj
    obtain ⟨fs, ho, hj⟩ := job_s hj
    obtain ⟨v, hv, hj⟩ := jso_s hj
    obtain ⟨w, hw1, hw2, hw3, hw4⟩ := jfld_ok hq
    exact va_get (D := jD E) (ci := k) (v := jt al v) (C := w.1) (T := w.2.1) (N := w.2.2) hx hb hts hw4 hown hKs hP a (jW_at ho) hw1 f hw2 (hts _ hw3) (fun _ h9 => h9) (by rw [List.getElem?_map, hv]; rfl) hd (go hj hE hH hS hl)
  | putfield x =>
    simp only [jchk, beq_iff_eq] at ck; subst ck
    simp only [jnorm, jop] at hj
    split at hj
    · rename_i v a r
      obtain ⟨⟨k, f⟩, hq, hkf, hj⟩ := jso_s hj
      obtain ⟨fs, ho, hlt, hj⟩ := job_s hj
      obtain ⟨w, hw1, hw2, hw3, hw4⟩ := jfld_ok hq
      obtain ⟨c1, c2, c3, c4, c5, c6⟩ := jcl_facts hw1
      have hfin := jfk_0 hw1 hkf
      refine va_put (D := jD E) (ci := k) (v := .int v) (ty := .int) (C := w.1) (T := w.2.1) (N := w.2.2) hx hb hts hw4 (jY k) c1 c2 hown hKs hP hD hS a (jW_at ho) hw1 f hw2 (hts _ hw3) (fun _ h9 => h9) hfin (by rw [c1 f hw2, c3 f hw2 hfin]) rfl rfl (by simpa using hlt) hd (fun H1 locs1 hP1 hD1 hS1 => ?_)
      have e1 : jW E.2.2.1 al 0 (h.set a (.inr (k, fs.set f (.int v)))) = (jW E.2.2.1 al 0 h).set a (al a, .inr (k, (fs.map (jt al)).set f (.int v))) := by
        rw [jW_set, Nat.zero_add]
        simp only [jE, List.map_set]
        rfl
      exact go hj (jExt_set hE) ⟨by rw [e1]; exact hP1, by rw [e1]; exact hD1, hb9⟩ hS1 hl
    · rename_i v a r
      obtain ⟨⟨k, f⟩, hq, hkf, hin1, hin2, hj⟩ := jso_s hj
      obtain ⟨fs, ho, hlt, hj⟩ := job_s hj
      obtain ⟨w, hw1, hw2, hw3, hw4⟩ := jfld_ok hq
      obtain ⟨c1, c2, c3, c4, c5, c6⟩ := jcl_facts hw1
      have hfin := jfk_1 hw1 hkf
      have hrt := c4 f hw2 hfin
      have hnf : narrow (jY k f) (.ref (al v)) = .ref (al v) ∧ fits (jY k f) (.ref (al v)) = true := by
        cases hy : jY k f with
        | object n => exact ⟨rfl, rfl⟩
        | array t => exact ⟨rfl, rfl⟩
        | _ => rw [hy] at hrt; cases hrt
      refine va_putF (D := jD E) (ci := k) (v := .ref (al v)) (ty := jY k f) (C := w.1) (T := w.2.1) (N := w.2.2) hx hb hts hw4 (jY k) c1 c2 hown hKs hP hD hS a (jW_at ho) hw1 f hw2 (hts _ hw3) (fun _ h9 => h9) hfin (hini hin1) (by rw [c5 f hw2, hin2]) (c1 f hw2) hnf.1 hnf.2 (by simpa using hlt) hd (fun H1 locs1 hP1 hD1 hS1 => ?_)
      have e1 : jW E.2.2.1 al 0 (h.set a (.inr (k, fs.set f (.ref v)))) = (jW E.2.2.1 al 0 h).set a (al a, .inr (k, (fs.map (jt al)).set f (.ref (al v)))) := by
        rw [jW_set, Nat.zero_add]
        simp only [jE, List.map_set]
        rfl
      exact go hj (jExt_set hE) ⟨by rw [e1]; exact hP1, by rw [e1]; exact hD1, hb9⟩ hS1 hl
    · exact hj.elim
  | iaload =>
    simp only [jchk, beq_iff_eq] at ck; subst ck
    obtain ⟨a, j, r, rfl, hj⟩ := jia_s hj
    rcases hj with ⟨rfl, hv, hj⟩ | hj
    · show W p l e (jm i) S m args below meth cd H locs c s _ (F0 m pc ls (.int j :: .ref (al 9999) :: r.map (jt al)))
      rw [hb9]
      exact va_sld hx hb hB.2.2.2.2.2.2.2.2.1 (by have := hB.2.2.2.2.2.2.2.2.2; omega) (Nat.not_le.mpr hB.2.2.2.2.2.2.2.2.2.2) hS hv hd (go hj hE hH hS hl)
    · obtain ⟨n, f, ho, hv, hj⟩ := jar_s hj
      exact va_iald hx hb hKs hP a 0 (jW_at ho) rfl hv hd (go hj hE hH hS hl)
  | baload =>
    simp only [jchk, beq_iff_eq] at ck; subst ck
    obtain ⟨a, j, r, rfl, hj⟩ := jia_s hj
    obtain ⟨n, f, ho, hv, hj⟩ := jar_s hj
    exact va_zald hx hb hKs hP a 1 (jW_at ho) rfl hv hd (go hj hE hH hS hl)
  | laload =>
    simp only [jchk, beq_iff_eq] at ck; subst ck
    obtain ⟨a, j, r, rfl, hj⟩ := jia_s hj
    obtain ⟨n, f, ho, hv, hj⟩ := jal_s hj
    exact va_lald hx hb hKs hP a 2 (jW_at ho) rfl hv hd (go hj hE hH hS hl)
  | iastore =>
    simp only [jchk, beq_iff_eq] at ck; subst ck
    obtain ⟨a, j, x, r, rfl, hj⟩ := jiia_s hj
    obtain ⟨n, f, ho, hv, hj⟩ := jar_s hj
    refine va_iast hx hb hKs hP hD hS a 0 (jW_at ho) rfl hv hd (fun H1 locs1 hP1 hD1 hS1 => ?_)
    have e1 : jW E.2.2.1 al 0 (h.set a (.inl (0, n, .inl (upd f j.toNatClampNeg x)))) = (jW E.2.2.1 al 0 h).set a (al a, .inl (E.2.2.1 0, n, .inl (upd f j.toNatClampNeg x))) := by
      rw [jW_set, Nat.zero_add]; rfl
    exact go hj (jExt_set hE) ⟨by rw [e1]; exact hP1, by rw [e1]; exact hD1, hb9⟩ hS1 hl
  | bastore =>
    simp only [jchk, beq_iff_eq] at ck; subst ck
    obtain ⟨a, j, x, r, rfl, hj⟩ := jiia_s hj
    obtain ⟨n, f, ho, hv, hj⟩ := jar_s hj
    refine va_zast hx hb hKs hP hD hS a 1 (jW_at ho) rfl hv hd (fun H1 locs1 hP1 hD1 hS1 => ?_)
    have e1 : jW E.2.2.1 al 0 (h.set a (.inl (1, n, .inl (upd f j.toNatClampNeg (x &&& 1))))) = (jW E.2.2.1 al 0 h).set a (al a, .inl (E.2.2.1 1, n, .inl (upd f j.toNatClampNeg (vp_nar .boolean x)))) := by
      rw [jW_set, Nat.zero_add]; rfl
    exact go hj (jExt_set hE) ⟨by rw [e1]; exact hP1, by rw [e1]; exact hD1, hb9⟩ hS1 hl
  | lastore =>
    simp only [jchk, beq_iff_eq] at ck; subst ck
    obtain ⟨a, j, x, r, rfl, hj⟩ := jlia_s hj
    obtain ⟨n, f, ho, hv, hj⟩ := jal_s hj
    refine va_last hx hb hKs hP hD hS a 2 (jW_at ho) rfl hv hd (fun H1 locs1 hP1 hD1 hS1 => ?_)
    have e1 : jW E.2.2.1 al 0 (h.set a (.inl (2, n, .inr (vp_updL f j.toNatClampNeg x)))) = (jW E.2.2.1 al 0 h).set a (al a, .inl (E.2.2.1 2, n, .inr (.inl (vp_updL f j.toNatClampNeg x)))) := by
      rw [jW_set, Nat.zero_add]; rfl
    exact go hj (jExt_set hE) ⟨by rw [e1]; exact hP1, by rw [e1]; exact hD1, hb9⟩ hS1 hl
  | arraylength =>
    simp only [jchk, beq_iff_eq] at ck; subst ck
    obtain ⟨a, r, rfl, hj⟩ := j1r_s hj
    rcases hj with ⟨h9, hj1⟩ | hj
    · subst h9
      show W p l e (jm i) S m args below meth cd H locs c s _ (F0 m pc ls (.ref (al 9999) :: r.map (jt al)))
      rw [hb9]
      exact va_slen hx hb hB.2.2.2.2.2.2.2.2.1 (by have := hB.2.2.2.2.2.2.2.2.2; omega) (Nat.not_le.mpr hB.2.2.2.2.2.2.2.2.2.2) hS hd (go hj1 hE hH hS hl)
    · obtain ⟨n, f, ho, hj⟩ := jar_s hj
      exact va_alen hx hb hKs hP a 0 (jW_at ho) (ty := .int) rfl rfl hd (go hj hE hH hS hl)
  | ireturn =>
    simp only [jchk, Bool.and_eq_true, Bool.or_eq_true, beq_iff_eq] at ck; obtain ⟨ck, ck2⟩ := ck; subst ck
    simp only [jnorm, jop] at hj
    split at hj
    · rename_i v
      obtain ⟨hv, h1, h2, hQ⟩ := hj
      refine W.widen h1 h2 (jret ?_)
      have hq : ∀ t : State, t.heap = H → S.WarmedH t.vm → jQc E Q al0 h0 args S (.returned (some (.int v))) t := fun t ht hW => ⟨some (.int v), al, h, rfl, hQ, hE, by rw [ht]; exact hH, hS.F ht⟩
      rcases ck2 with ck2 | ck2
      · exact W.iret hx hb (by rw [hr, ck2]) hq hS.2.2 hd hlk
      · refine W.zret (ty := .boolean) hx hb (by rw [hr, ck2]) ?_ hq hS.2.2 hd hlk
        show Value.int (v &&& 1) = .int v
        rw [hv ck2]
    · exact hj.elim
  | return_ =>
    simp only [jchk, Bool.and_eq_true, beq_iff_eq, Option.isNone_iff_eq_none] at ck; obtain ⟨ck, ck2⟩ := ck; subst ck
    simp only [jnorm, jop] at hj
    split at hj
    · obtain ⟨h1, h2, hQ⟩ := hj
      refine W.widen h1 h2 (jret ?_)
      exact W.vret hx hb (by rw [hr, ck2]) (fun t ht hW => ⟨none, al, h, rfl, hQ, hE, by rw [ht]; exact hH, hS.F ht⟩) hS.2.2 hd hlk
    · exact hj.elim
  | invokevirtual x => exact hn.elim
  | invokestatic x => exact hn.elim
  | invokespecial x => exact hn.elim
  | new x => exact hn.elim
  | newarray x => exact hn.elim
  | _ => exact hj.elim
end
section
/-! a walk of a method's body gives its contract -/
theorem jent_len : ∀ (al : Nat → Nat) (as : List Value), (lg_sl (as.map (jt al))).length = (jent as).length
  | al, [] => rfl
  | al, v :: r => by
    have ih := jent_len al r
    cases v <;> simp_all [lg_sl, jent, jt, Value.category]
theorem jent_mem : ∀ (al : Nat → Nat) (as : List Value) (n k : Nat) (v : Value), (k, v) ∈ jlist n (jent as) → (k, jt al v) ∈ lv_args n (as.map (jt al))
  | al, [], n, k, v, h => by simp [jent, jlist] at h
  | al, w :: r, n, k, v, h => by
    cases w with
    | long x =>
      simp only [jent, jlist, List.mem_cons] at h
      simp only [List.map_cons, lv_args, List.mem_cons]
      rcases h with h | h
      · left; cases h; rfl
      · right
        have := jent_mem al r (n + 1 + 1) k v h
        simpa [jt, Value.category] using this
    | int x =>
      simp only [jent, jlist, List.mem_cons] at h
      simp only [List.map_cons, lv_args, List.mem_cons]
      rcases h with h | h
      · left; cases h; rfl
      · right
        have := jent_mem al r (n + 1) k v h
        simpa [jt, Value.category] using this
    | ref x =>
      simp only [jent, jlist, List.mem_cons] at h
      simp only [List.map_cons, lv_args, List.mem_cons]
      rcases h with h | h
      · left; cases h; rfl
      · right
        have := jent_mem al r (n + 1) k v h
        simpa [jt, Value.category] using this
    | float x =>
      simp only [jent, jlist, List.mem_cons] at h
      simp only [List.map_cons, lv_args, List.mem_cons]
      rcases h with h | h
      · left; cases h; rfl
      · right
        have := jent_mem al r (n + 1) k v h
        simpa [jt, Value.category] using this
    | null =>
      simp only [jent, jlist, List.mem_cons] at h
      simp only [List.map_cons, lv_args, List.mem_cons]
      rcases h with h | h
      · left; cases h; rfl
      · right
        have := jent_mem al r (n + 1) k v h
        simpa [jt, Value.category] using this
    | retAddr x =>
      simp only [jent, jlist, List.mem_cons] at h
      simp only [List.map_cons, lv_args, List.mem_cons]
      rcases h with h | h
      · left; cases h; rfl
      · right
        have := jent_mem al r (n + 1) k v h
        simpa [jt, Value.category] using this
    | double x =>
      simp only [jent, jlist, List.mem_cons] at h
      simp only [List.map_cons, lv_args, List.mem_cons]
      rcases h with h | h
      · left; cases h; rfl
      · right
        have := jent_mem al r (n + 1 + 1) k v h
        simpa [jt, Value.category] using this
theorem jm_own : ∀ k, k < 119 → (jn k).cls = jcn (jo k) := by decide +kernel
theorem jlv_pad {al : Nat → Nat} {n : Nat} {as : List Value} {q : Nat × Value} (h : q ∈ jlv al (jpad n (jent as))) : q ∈ lv_args 0 (as.map (jt al)) := by
  obtain ⟨⟨k, v⟩, hm, rfl⟩ := List.mem_map.mp h
  refine jent_mem al as 0 k v ?_
  obtain ⟨j, h1, h2⟩ := (jlist_mem _ 0 (k, v)).mp hm
  refine (jlist_mem _ 0 (k, v)).mpr ⟨j, h1, ?_⟩
  unfold jpad at h2
  by_cases hj : j < (jent as).length
  · rwa [List.getElem?_append_left hj] at h2
  · rw [List.getElem?_append_right (by omega), List.getElem?_replicate] at h2
    split at h2 <;> cases h2
set_option maxHeartbeats 1000000 in
theorem J_met {l : Launch} {E : jEnv} {k : Nat} {as : List Value} {h : List jC} {Q : jO → List jC → Prop} (hg : GO l E k 0 (jpad (jl k) (jent as)) [] h 0 0 Q) (hk : k < 119) (hp : plainFor (jn k) = true) (hlen : (jent as).length ≤ jl k) (hst : l.stackTraces = false) (al : Nat → Nat) :
    jMet l (jn k) (jcw k :: jGW) (jm k) (va_Pc (as.map (jt al)) (fun U => jBase E U U.heap ∧ jHeap E al h U.heap)) (jQc E Q al h) (jXC E Q al h) (jrc k) (jrs k) (jA E) := by
  refine MetFree.of_bodySF (code := jb k) (maxLocals := jl k) (ret := jr k) hp ?_ ?_
  · intro args s m hpre hn
    have hw := atoms_spec (ws := jcw k :: jGW) hpre _ List.mem_cons_self
    unfold jcw at hw
    split at hw
    · obtain ⟨meth, c, h1, h2, h3, h4, h5, h6, -, -⟩ := Cond.code_spec hn hw
      exact ⟨meth, c, h1, h2, h3, h4, h5, h6⟩
    · obtain ⟨m9, meth, c, hn9, h1, h2, h3, h4, -, h5, h6, -⟩ := Cond.codeWith_spec hw
      cases hn.symm.trans hn9
      exact ⟨meth, c, h1, h2, h3, h4, h5, h6⟩
  · intro p e s m args below meth c s₁ B hml hP _
    obtain ⟨rfl, hB, hH⟩ := hP
    have hh0 : s₁.heap = s.heap := by rw [B.state]; rfl
    have hts0 := atoms_spec (ws := jcw k :: jGW) B.pre
    have htab : c.exceptionTable.toList = tableOf (jh k) := by
      have hw := hts0 _ List.mem_cons_self
      unfold jcw at hw
      split at hw
      · rename_i he
        obtain ⟨meth9, c9, h1, h2, -, -, -, -, h7, -⟩ := Cond.code_spec B.named hw
        cases Option.some.inj (h1.symm.trans B.method)
        cases Option.some.inj (h2.symm.trans (Stand.of_body B).code)
        rw [Array.isEmpty_iff.mp h7, List.isEmpty_iff.mp he]
        rfl
      · exact vx_table (x := jn k) B hw
    have C : jCtx l E k p s m (as.map (jt al)).toArray meth c := ⟨B.exec, B.bytes, hml, B.returns, by rw [← jm_own k hk]; exact findClass_of_methodNamed B.named, fun w hw => hts0 w (List.mem_cons_of_mem _ hw), htab, B.notSynchronized, fun hi => (name_of_methodNamed B.named B.method).1.trans hi, hB, hst⟩
    have hl := lv_entry (as.map (jt al)) (n := jl k) (by rw [jent_len]; exact hlen)
    have hl2 : lv_has _ (jl k) (jlv al (jpad (jl k) (jent as))) := ⟨hl.1, hl.2.1, fun q hq => hl.2.2 q (jlv_pad hq)⟩
    have K := hg p e s m (as.map (jt al)).toArray below meth c C al h al s.heap [] _ jExt_rf hH va_S.rf hl2
    obtain ⟨t, a1, o, b1, b2, b3⟩ := K s₁ hh0 (Stand.of_body B)
    refine ⟨t, o, ?_, b1, b2, b3⟩
    rw [lg_entry_eq]
    exact a1
end
section
theorem jcast_nc : ∀ a ∈ jCast, ∀ b ∈ jCast, b ≠ a → (a, b) ∈ jNcL := by decide +kernel
def jhf (pc : Nat) (X : String) (q : Nat × Nat × Nat × String) : Bool := q.1 ≤ pc && pc < q.2.1 && q.2.2.2 == X
theorem jhan_split {own X : String} {pc : Nat} : ∀ (A : List (Nat × Nat × Nat × Nat)) (B : List (Nat × Nat × Nat × String)) (b : Nat × Nat × Nat × String), A.length = B.length →
    (∀ q ∈ A.zip B, q.1.1 = q.2.1 ∧ q.1.2.1 = q.2.2.1 ∧ q.1.2.2.1 = q.2.2.2.1 ∧ q.1.2.2.2 ≠ 0 ∧ jgood (Cond.classLink own q.1.2.2.2 q.2.2.2.2) = true ∧ q.2.2.2.2 ∈ jCast) →
    B.find? (jhf pc X) = some b →
    ∃ (pre : List ExceptionTableEntry) (x : ExceptionTableEntry) (suf : List ExceptionTableEntry), tableOf A = pre ++ x :: suf ∧ x.handlerPc = b.2.2.1 ∧ covers x pc = true ∧ x.catchType ≠ 0 ∧ Cond.classLink own x.catchType X ∈ jGW ∧
      ∀ z ∈ pre, covers z pc = false ∨ (z.catchType ≠ 0 ∧ ∃ nm, Cond.classLink own z.catchType nm ∈ jGW ∧ nm ∈ jCast ∧ nm ≠ X)
  | [], [], b, _, _, hf => by cases hf
  | [], _ :: _, b, hl, _, _ => by simp at hl
  | _ :: _, [], b, hl, _, _ => by simp at hl
  | a :: A, c :: B, b, hl, hz, hf => by
    obtain ⟨e1, e2, e3, e4, e5, e6⟩ := hz (a, c) (by simp)
    dsimp only at e1 e2 e3 e4 e5 e6
    by_cases hc : jhf pc X c = true
    · rw [List.find?_cons_of_pos hc] at hf
      cases hf
      simp only [jhf, Bool.and_eq_true, decide_eq_true_eq, beq_iff_eq] at hc
      refine ⟨[], ⟨a.1, a.2.1, a.2.2.1, a.2.2.2⟩, tableOf A, rfl, e3, ?_, e4, ?_, fun z hz => by cases hz⟩
      · simp only [covers, Bool.and_eq_true, decide_eq_true_eq]
        omega
      · rw [← hc.2]; exact jgood_spec e5
    · rw [List.find?_cons_of_neg hc] at hf
      obtain ⟨pre, x, suf, h1, h2, h3, h4, h5, h6⟩ := jhan_split A B b (by simpa using hl) (fun q hq => hz q (by simp [hq])) hf
      refine ⟨⟨a.1, a.2.1, a.2.2.1, a.2.2.2⟩ :: pre, x, suf, ?_, h2, h3, h4, h5, fun z hz => ?_⟩
      · show _ :: tableOf A = _; rw [h1]; rfl
      · rcases List.mem_cons.mp hz with rfl | hz
        · by_cases hcov : a.1 ≤ pc ∧ pc < a.2.1
          · right
            refine ⟨e4, c.2.2.2, jgood_spec e5, e6, fun e => hc ?_⟩
            simp only [jhf, Bool.and_eq_true, decide_eq_true_eq, beq_iff_eq]
            exact ⟨by omega, e⟩
          · left
            simp only [covers, Bool.and_eq_false_iff, decide_eq_false_iff_not]
            omega
        · exact h6 z hz
theorem jwfv_eq {n : Nat} {al al' : Nat → Nat} {v : Value} (h : jwfv n v = true) (ha : ∀ k, k < n → al' k = al k) (h9 : al' 9999 = al 9999) : jt al' v = jt al v := by
  cases v with
  | ref k =>
    simp only [jwfv, Bool.or_eq_true, decide_eq_true_eq, beq_iff_eq] at h
    rcases h with h | h
    · show Value.ref (al' k) = .ref (al k); rw [ha k h]
    · subst h; show Value.ref (al' 9999) = .ref (al 9999); rw [h9]
  | _ => rfl
theorem jwf_eq {n : Nat} {loc : List (Option Value)} {r : List Value} {al al' : Nat → Nat} (h : jwf n loc r = true) (ha : ∀ k, k < n → al' k = al k) (h9 : al' 9999 = al 9999) : jlv al' loc = jlv al loc ∧ r.map (jt al') = r.map (jt al) := by
  simp only [jwf, Bool.and_eq_true, List.all_eq_true] at h
  refine ⟨List.map_congr_left fun q hq => ?_, List.map_congr_left fun v hv => jwfv_eq (h.2 v hv) ha h9⟩
  obtain ⟨j, -, hj⟩ := (jlist_mem loc 0 q).mp hq
  have := h.1 _ (List.mem_of_getElem? hj)
  rw [jwfv_eq (n := n) (v := q.2) this ha h9]
theorem jgood_ws {k : Nat} (hk : jcw k ∈ jGW) : GoodIn jGW (jcw k :: jGW) := fun w hw => by
  rcases List.mem_cons.mp hw with rfl | hw
  · exact jGW_self _ hk
  · exact jGW_self _ hw
set_option maxHeartbeats 1000000 in
theorem J_core {l : Launch} {E : jEnv} {i pc k : Nat} {loc : List (Option Value)} {st as r : List Value} {h : List jC} {c s : Nat} {K : jK} {Q : jO → List jC → Prop}
    {p : Program} {e : Env} {S : State} {m : MethodId} {args : Array Value} {below : List Frame} {meth : Method} {cd : Code} (C : jCtx l E i p S m args meth cd)
    {al0 : Nat → Nat} {h0 : List jC} {al : Nat → Nat} {H : Heap} {locs : List Loc} {ls : Array Slot} (hE : jExt al0 h0 al h) (hH : jHeap E al h H) (hS : va_S (jA E) S.heap H locs) (hl : lv_has ls (jl i) (jlv al loc))
    (hi : i < 119) (hk : k < 119) (hw : jcw k ∈ jGW) (hwi : Cond.initialized (jn k).cls ∈ jGW) (hp : plainFor (jn k) = true)
    (hI : jInv p l e (jm i) S m args below meth cd H locs c s (F0 m pc ls (st.map (jt al))) (r.map (jt al)) (jn k) (as.map (jt al)).toArray)
    (hr : jrest r = true) (hf : jfit i k c s = true) (hlen : (jent as).length ≤ jl k) (hg : GO l E k 0 (jpad (jl k) (jent as)) [] h 0 0 (jback i pc (pc + 3) k loc r h c s K Q))
    (hK : ∀ nx loc st h c s, K nx loc st h c s → GO l E i nx loc st h c s Q) :
    W p l e (jm i) S m args below meth cd H locs c s (jMQ E Q i al0 h0 below args S) (F0 m pc ls (st.map (jt al))) := by
  obtain ⟨hx, hb, hml, hrt, hown, hts, htab, hlk, hini, hB, hst⟩ := id C
  simp only [jfit, Bool.and_eq_true, decide_eq_true_eq] at hf
  obtain ⟨⟨⟨f1, f2⟩, f3⟩, f4⟩ := hf
  have hws := pay_in hts (jgood_ws hw)
  have hA : ∀ q, q < H.size → jA E q → jA E q := fun _ _ h => h
  have hal : ∀ {al' : Nat → Nat} {h' : List jC} {H' : Heap}, jExt al h al' h' → jHeap E al' h' H' → (h'.length = h.length ∨ jwf h.length loc r = true) → jlv al' loc = jlv al loc ∧ r.map (jt al') = r.map (jt al) := by
    intro al' h' H' x1 x2 x3
    rcases x3 with x3 | x3
    · rw [x1.2.2 x3]; exact ⟨rfl, rfl⟩
    · exact jwf_eq x3 x1.2.1 (x2.2.2.trans hH.2.2.symm)
  refine jRun (maxL := jl k) hI (J_met hg hk hp hlen hst al) ?_ f1 f2 hws ?_ (hts _ hwi) rfl (hl.1.trans hml.symm) ?_ ⟨f3, f4⟩ ?_ ?_ ?_
  · intro a U g mk hq
    obtain ⟨q0, q1, q2⟩ := hq
    exact ⟨q0, jBase_moved (s := U) (State.WarmedH.refl U) (Nat.le_refl _) (fun _ _ _ => rfl) q1, q2⟩
  · intro U mk hW hn
    have hu := hws _ List.mem_cons_self #[] U hW
    unfold jcw at hu
    split at hu
    · obtain ⟨meth9, c9, h1, h2, -, h4, -⟩ := Cond.code_spec hn hu
      exact ⟨meth9, c9, h1, h2, h4⟩
    · obtain ⟨m9, meth9, c9, hn9, h1, h2, -, h4, -⟩ := Cond.codeWith_spec hu
      cases hn.symm.trans hn9
      exact ⟨meth9, c9, h1, h2, h4⟩
  · rw [jt_sum]
    exact lv_room (jrest_s hr)
  · intro U hU hW
    refine ⟨rfl, ?_, by rw [hU]; exact hH⟩
    rw [hU]
    exact jBase_moved hW hS.1 hS.2.1 hB
  · intro v st₀ t T' L h00 X' hL e1 e2 hq
    obtain ⟨v', al', h', ev, hq, x1, x2, hF⟩ := hq
    cases ev
    obtain ⟨hwf, hq⟩ := hq
    have x2' : jHeap E al' h' T'.heap := by rw [e1]; exact x2
    obtain ⟨a1, a2⟩ := hal x1 x2' hwf
    obtain ⟨-, -, k3⟩ := vx_keep h00 e1 hS hA (fun _ h => h) hL hF
    obtain ⟨t9, b1, b2⟩ := hK _ _ _ _ _ _ hq p e S m args below meth cd C al0 h0 al' T'.heap (locs ++ L) ls (jExt_tr hE x1) x2' k3 (by rw [a1]; exact hl) T' rfl X'
    refine ⟨t9, ?_, b2⟩
    have e9 : (v'.toList ++ r).map (jt al') = (v'.map (jt al')).toList ++ r.map (jt al) := by
      rw [List.map_append, a2]
      cases v' <;> rfl
    rw [e9] at b1
    exact b1
  · intro q st₀ t T' L X ce h00 X' hL e1 e2 hq hce hcv hcl
    obtain ⟨al', h', hXc, hq, x1, x2, hF⟩ := hq
    obtain ⟨hwf, hq⟩ := hq
    have x2' : jHeap E al' h' T'.heap := by rw [e1]; exact x2
    obtain ⟨a1, a2⟩ := hal x1 x2' hwf
    obtain ⟨-, -, k3⟩ := vx_keep h00 e1 hS hA (fun _ h => h) hL hF
    split at hq
    · rename_i q9 hq9
      obtain ⟨⟨ins, nx⟩, hz, hq⟩ := jso_s hq
      dsimp only at hq
      split at hq
      · rename_i j
        obtain ⟨hfr, hq⟩ := hq
        have hq9' : ((jHC.getD i []).find? (jhf pc X)).map (fun q => q.2.2.1) = some q9 := hq9
        cases hfi : (jHC.getD i []).find? (jhf pc X) with
        | none => rw [hfi] at hq9'; cases hq9'
        | some b =>
          have hb9 : b.2.2.1 = q9 := by rw [hfi] at hq9'; exact Option.some.inj hq9'
          obtain ⟨pre, x, suf, s1, s2, s3, s4, s5, s6⟩ := jhan_split (own := jcn (jo i)) (jh i) (jHC.getD i []) b (jHl i hi) (jHk i hi) hfi
          have G : W p l e (jm i) S m args below meth cd T'.heap (locs ++ L) (c + (jm k).cells) (s + (jm k).slots) (jMQ E Q i al0 h0 below args S) (F0 m x.handlerPc ls [.ref q]) := by
            rw [s2, hb9]
            cases hcc : jcode i q9 with
            | none => simp [jcd, hcc] at hz
            | some raw =>
              obtain ⟨raw, len⟩ := raw
              have hd := jdec hcc
              have ck := jchk_of hcc
              simp only [jcd, hcc, Option.map_some, Option.some.injEq, Prod.mk.injEq] at hz
              obtain ⟨hz1, hz2⟩ := hz
              subst hz2
              have fin : ∀ ls', lv_has ls' (jl i) (jlv al' (loc.set j none)) → W p l e (jm i) S m args below meth cd T'.heap (locs ++ L) (c + (jm k).cells) (s + (jm k).slots) (jMQ E Q i al0 h0 below args S) (F0 m (q9 + len) ls' []) := fun ls' hl' => hK _ _ _ _ _ _ hq p e S m args below meth cd C al0 h0 al' T'.heap (locs ++ L) ls' (jExt_tr hE x1) x2' k3 hl'
              have hl2 : lv_has ls (jl i) (jlv al' loc) := by rw [a1]; exact hl
              cases raw <;> simp only [jnorm, reduceCtorEq] at hz1
              · cases hz1
                simp only [jchk, Bool.and_eq_true, beq_iff_eq, decide_eq_true_eq] at ck; obtain ⟨ck, ck2⟩ := ck; subst ck
                exact lv_astore hx hb hd hl2 ck2 rfl (fun ls' hl' => fin ls' (jlv_drop hfr hl'))
              · cases hz1
                simp only [jchk, Bool.and_eq_true, beq_iff_eq, decide_eq_true_eq] at ck; obtain ⟨ck, ck2⟩ := ck; subst ck
                exact lv_astore_n hx hb hd rfl hl2 ck2 rfl (fun ls' hl' => fin ls' (jlv_drop hfr hl'))
          refine vx_catch (own := jcn (jo i)) (name := X) (E := X) (ce := ce) hown pre x suf (htab.trans s1) (fun z hz => ?_) s3 s4 (hts _ s5) (va_Nw.use rfl (hB.2.2.2.2.2.2.2.1 X hXc)) (by rw [e1]; exact hce) hcv hcl G T' rfl X'
          rcases s6 z hz with g1 | ⟨g1, nm, g2, g3, g4⟩
          · exact Or.inl g1
          · exact Or.inr ⟨g1, nm, hts _ g2, hB.2.2.2.2.1 (X, nm) (jcast_nc X hXc nm g3 g4)⟩
      · exact hq.elim
    · obtain ⟨hemp, hq⟩ := hq
      have hout : ∀ x ∈ cd.exceptionTable.toList, covers x pc = false := by
        intro x hx9
        rw [htab, List.isEmpty_iff.mp hemp] at hx9
        cases hx9
      obtain ⟨st1, hrun, hend, hW, hsm⟩ := X'.leaveThrown q (g := F0 m pc ls (r.map (jt al))) rfl rfl rfl hout hlk
      have hcell9 : (T'.setFrames (.throwing q :: below)).heap[q]? = some ce := by
        show T'.heap[q]? = some ce
        rw [e1]; exact hce
      refine ⟨_, st1, .threw q, hrun, hend, Or.inr ⟨q, rfl, X, ce, locs ++ L, ⟨al', h', hXc, hq, jExt_tr hE x1, x2', ?_⟩, hcell9, hcv, hcl, hW, hsm.mono f3 f4, k3.2.2⟩⟩
      exact k3.F rfl
end
section
theorem jC_k : ∀ q ∈ jCL, q.2.2 < 119 ∧ (q.2.1 = 0 → jo q.2.2 < 5) := by decide +kernel
theorem jcw_code {k : Nat} (h : (jh k).isEmpty = true) : jcw k = .code (jn k) (jb k) (jl k) (jr k) := by unfold jcw; rw [if_pos h]
theorem jcw_with {k : Nat} (h : (jh k).isEmpty = false) : jcw k = .codeWith (jn k) (jb k) (jl k) (jr k) (jh k) := by unfold jcw; rw [if_neg (by rw [h]; decide)]
theorem jlen_of {k n : Nat} (hd : (parseMethodDescriptor (jn k).desc).map (fun d => d.parameters.length) = some (jp k)) (hn : n = jp k) : ∀ sig, parseMethodDescriptor (jn k).desc = some sig → n = sig.parameters.length := by
  intro sig h
  rw [h] at hd
  exact hn.trans (Option.some.inj hd).symm
set_option maxHeartbeats 1000000 in
theorem J_virt {l : Launch} {E : jEnv} {i pc x : Nat} {loc : List (Option Value)} {st : List Value} {h : List jC} {c s : Nat} {K : jK} {Q : jO → List jC → Prop}
    (hc : jcode i pc = some (.invokevirtual x, 3)) (hj : jcall l E i pc x (pc + 3) loc st h c s K Q [0]) (hK : ∀ nx loc st h c s, K nx loc st h c s → GO l E i nx loc st h c s Q) : GO l E i pc loc st h c s Q := by
  intro p e S m args below meth cd C al0 h0 al H locs ls hE hH hS hl
  obtain ⟨hx, hb, hml, hrt, hown, hts, htab, hlk, hini, hB, hst⟩ := id C
  have hd := jdec hc
  obtain ⟨⟨kind, k⟩, hq, hkin, hj⟩ := jso_s hj
  obtain ⟨⟨as, r⟩, ht, hr, hf, hlen, hv, -, hg⟩ := jso_s hj
  have mem := jcal_ok hq
  have hk0 : kind = 0 := by simpa using hkin
  subst hk0
  obtain ⟨d1, d2, d3, d4⟩ := jC_p _ mem
  obtain ⟨k1, k2⟩ := jC_k _ mem
  have wd := jC_all _ mem
  simp only [jCws] at wd
  dsimp only at d1 d2 d3 d4 k1 k2 hr hf hlen hv hg
  obtain ⟨bs, e1, e2, e3⟩ := jtake_s _ _ _ _ _ ht
  rw [List.append_nil] at e3
  subst e3
  have hemp : (jh k).isEmpty = true := by
    rcases jC_h _ mem with ⟨q, -⟩ | ⟨-, -, q⟩
    · cases q
    · exact q
  obtain ⟨v0, hv0, hv9⟩ := jso_s (hv rfl)
  cases as with
  | nil => cases hv0
  | cons w ps =>
    cases hv0
    split at hv9
    · rename_i b
      obtain ⟨fs, ho, -⟩ := job_s hv9
      have hcl := k2 rfl
      have hcl2 : jCl[jo k]? = some (jCl[jo k]'(by simpa using hcl)) := List.getElem?_eq_getElem _
      obtain ⟨cell, g1, g2, g3⟩ := va_recv hB.1 hH.1 hcl2 (jW_at ho)
      rw [(jcl_facts hcl2).2.2.2.2.2, ← jm_own k k1] at g3
      have w1 : Cond.methodLink (jcn (jo i)) x (jn k) ∈ jGW := wd _ List.mem_cons_self
      have w2 : Cond.instanceMethod (jn k) ∈ jGW := wd _ (List.mem_cons_of_mem _ List.mem_cons_self)
      have w3 : Cond.selects (jn k).cls (jn k) (jn k) ∈ jGW := wd _ (List.mem_cons_of_mem _ (List.mem_cons_of_mem _ List.mem_cons_self))
      have w4 : Cond.initialized (jn k).cls ∈ jGW := wd _ (List.mem_cons_of_mem _ (List.mem_cons_of_mem _ (List.mem_cons_of_mem _ List.mem_cons_self)))
      have w5 : jcw k ∈ jGW := wd _ (List.mem_cons_of_mem _ (List.mem_cons_of_mem _ (List.mem_cons_of_mem _ (List.mem_cons_of_mem _ List.mem_cons_self))))
      have hcode : (Cond.code (jn k) (jb k) (jl k) (jr k)).before args S = true := by
        rw [← jcw_code hemp]; exact hts _ w5
      refine J_core (as := .ref b :: ps) (st := st) (r := r) C hE hH hS hl (jlt hc) k1 w5 w4 d4 ?_ hr hf hlen hg hK
      have hps : ps.length = jp k := by simp at e1; exact e1
      have := jInvV (p := p) (l := l) (e := e) (R := jm i) (below := below) (meth := meth) (locs := locs) (cells := c) (slots := s) (H := H) (C := (jn k).cls) (y := jn k) (b := al b) (g := F0 m pc ls (st.map (jt al))) (argsL := ps.map (jt al)) (rest := r.map (jt al)) hx hown (hts _ w1) (hts _ w2) (hts _ w3) hcode ⟨d2, d3⟩ g1 g2 g3 rfl
        (jlen_of d1 (by rw [List.length_map]; exact hps)) (by rw [e2]; simp [jt]) (by rw [hb]; exact hd)
      exact this
    · exact hv9.elim
set_option maxHeartbeats 1000000 in
theorem J_stat {l : Launch} {E : jEnv} {i pc x : Nat} {loc : List (Option Value)} {st : List Value} {h : List jC} {c s : Nat} {K : jK} {Q : jO → List jC → Prop}
    (hc : jcode i pc = some (.invokestatic x, 3)) (hj : jcall l E i pc x (pc + 3) loc st h c s K Q [1, 4, 6]) (hK : ∀ nx loc st h c s, K nx loc st h c s → GO l E i nx loc st h c s Q) : GO l E i pc loc st h c s Q := by
  intro p e S m args below meth cd C al0 h0 al H locs ls hE hH hS hl
  obtain ⟨hx, hb, hml, hrt, hown, hts, htab, hlk, hini, hB, hst⟩ := id C
  have hd := jdec hc
  obtain ⟨⟨kind, k⟩, hq, hkin, hj⟩ := jso_s hj
  obtain ⟨⟨as, r⟩, ht, hr, hf, hlen, -, -, hg⟩ := jso_s hj
  have mem := jcal_ok hq
  obtain ⟨d1, d2, d3, d4⟩ := jC_p _ mem
  obtain ⟨k1, k2⟩ := jC_k _ mem
  have wd := jC_all _ mem
  have hh := jC_h _ mem
  have hn := jC_n _ mem
  dsimp only at d1 d2 d3 d4 k1 k2 hr hf hlen hg hh hn ht
  have hkin : kind = 1 ∨ kind = 4 ∨ kind = 6 := by simpa using hkin
  have hn0 : jp k + (if kind = 1 ∨ kind = 4 ∨ kind = 6 then 0 else 1) = jp k := by rw [if_pos hkin]; rfl
  rw [hn0] at ht
  obtain ⟨bs, e1, e2, e3⟩ := jtake_s _ _ _ _ _ ht
  rw [List.append_nil] at e3
  subst e3
  have hla := jlen_of d1 (show (as.map (jt al)).length = jp k by rw [List.length_map]; exact e1)
  have hstk : (F0 m pc ls (st.map (jt al))).stack = (as.map (jt al)).reverse ++ r.map (jt al) := by
    show st.map (jt al) = _
    rw [e2]; simp
  have hdg : decode cd.code (F0 m pc ls (st.map (jt al))).pc = .ok (.invokestatic x, 3) := by rw [hb]; exact hd
  rcases hkin with rfl | rfl | rfl
  · simp only [jCws] at wd
    have w1 : Cond.methodLink (jcn (jo i)) x (jn k) ∈ jGW := wd _ List.mem_cons_self
    have w2 : Cond.static (jn k) ∈ jGW := wd _ (List.mem_cons_of_mem _ List.mem_cons_self)
    have w3 : Cond.initialized (jn k).cls ∈ jGW := wd _ (List.mem_cons_of_mem _ (List.mem_cons_of_mem _ List.mem_cons_self))
    have w4 : jcw k ∈ jGW := wd _ (List.mem_cons_of_mem _ (List.mem_cons_of_mem _ (List.mem_cons_of_mem _ List.mem_cons_self)))
    have hemp : (jh k).isEmpty = true := by
      rcases hh with ⟨q, -⟩ | ⟨-, -, q⟩
      · cases q
      · exact q
    have hcode : (Cond.code (jn k) (jb k) (jl k) (jr k)).before args S = true := by
      rw [← jcw_code hemp]; exact hts _ w4
    exact J_core (as := as) (st := st) (r := r) C hE hH hS hl (jlt hc) k1 w4 w3 d4 (jInvS hx hown (hts _ w1) (hts _ w2) (hts _ w3) hcode ⟨d2, d3⟩ rfl hla hstk hdg) hr hf hlen hg hK
  · simp only [jCws] at wd
    have w2 : Cond.static (jn k) ∈ jGW := wd _ List.mem_cons_self
    have w3 : Cond.initialized (jn k).cls ∈ jGW := wd _ (List.mem_cons_of_mem _ List.mem_cons_self)
    have w4 : jcw k ∈ jGW := wd _ (List.mem_cons_of_mem _ (List.mem_cons_of_mem _ List.mem_cons_self))
    have hemp : (jh k).isEmpty = true := by
      rcases hh with ⟨q, -⟩ | ⟨-, -, q⟩
      · cases q
      · exact q
    have hcode : (Cond.code (jn k) (jb k) (jl k) (jr k)).before args S = true := by
      rw [← jcw_code hemp]; exact hts _ w4
    exact J_core (as := as) (st := st) (r := r) C hE hH hS hl (jlt hc) k1 w4 w3 d4 (jInvSN hx hown (va_Nw.use rfl (hB.2.2.2.2.2.1 _ (hn (Or.inl rfl)))) (hts _ w2) (hts _ w3) hcode ⟨d2, d3⟩ rfl hla hstk hdg) hr hf hlen hg hK
  · simp only [jCws] at wd
    have w1 : Cond.methodLink (jcn (jo i)) x (jn k) ∈ jGW := wd _ List.mem_cons_self
    have w2 : Cond.static (jn k) ∈ jGW := wd _ (List.mem_cons_of_mem _ List.mem_cons_self)
    have w3 : Cond.initialized (jn k).cls ∈ jGW := wd _ (List.mem_cons_of_mem _ (List.mem_cons_of_mem _ List.mem_cons_self))
    have w4 : jcw k ∈ jGW := wd _ (List.mem_cons_of_mem _ (List.mem_cons_of_mem _ (List.mem_cons_of_mem _ List.mem_cons_self)))
    have hemp : (jh k).isEmpty = false := by
      rcases hh with ⟨-, q⟩ | ⟨q, -, -⟩
      · exact q
      · exact absurd q (by decide)
    have hcode : (Cond.codeWith (jn k) (jb k) (jl k) (jr k) (jh k)).before args S = true := by
      rw [← jcw_with hemp]; exact hts _ w4
    exact J_core (as := as) (st := st) (r := r) C hE hH hS hl (jlt hc) k1 w4 w3 d4 (jInvSX hx hown (hts _ w1) (hts _ w2) (hts _ w3) hcode ⟨d2, d3⟩ rfl hla hstk hdg) hr hf hlen hg hK
set_option maxHeartbeats 1000000 in
theorem J_spec {l : Launch} {E : jEnv} {i pc x : Nat} {loc : List (Option Value)} {st : List Value} {h : List jC} {c s : Nat} {K : jK} {Q : jO → List jC → Prop}
    (hc : jcode i pc = some (.invokespecial x, 3)) (hj : jcall l E i pc x (pc + 3) loc st h c s K Q [2, 5]) (hK : ∀ nx loc st h c s, K nx loc st h c s → GO l E i nx loc st h c s Q) : GO l E i pc loc st h c s Q := by
  intro p e S m args below meth cd C al0 h0 al H locs ls hE hH hS hl
  obtain ⟨hx, hb, hml, hrt, hown, hts, htab, hlk, hini, hB, hst⟩ := id C
  have hd := jdec hc
  obtain ⟨⟨kind, k⟩, hq, hkin, hj⟩ := jso_s hj
  obtain ⟨⟨as, r⟩, ht, hr, hf, hlen, -, hv, hg⟩ := jso_s hj
  have mem := jcal_ok hq
  obtain ⟨d1, d2, d3, d4⟩ := jC_p _ mem
  obtain ⟨k1, k2⟩ := jC_k _ mem
  have wd := jC_all _ mem
  have hh := jC_h _ mem
  have hn := jC_n _ mem
  have hi9 := jC_i _ mem
  dsimp only at d1 d2 d3 d4 k1 k2 hr hf hlen hg hh hn hi9 ht hv
  have hkin : kind = 2 ∨ kind = 5 := by simpa using hkin
  obtain ⟨hnm, hret⟩ := hi9 hkin
  have hn0 : jp k + (if kind = 1 ∨ kind = 4 ∨ kind = 6 then 0 else 1) = jp k + 1 := by
    rw [if_neg]
    rcases hkin with rfl | rfl <;> decide
  rw [hn0] at ht
  obtain ⟨bs, e1, e2, e3⟩ := jtake_s _ _ _ _ _ ht
  rw [List.append_nil] at e3
  subst e3
  obtain ⟨v0, hv0, hv9⟩ := jso_s (hv hkin)
  cases as with
  | nil => cases hv0
  | cons w ps =>
    cases hv0
    split at hv9
    · rename_i b
      have hps : ps.length = jp k := by simp at e1; exact e1
      have hla := jlen_of d1 (show (ps.map (jt al)).length = jp k by rw [List.length_map]; exact hps)
      have hstk : (F0 m pc ls (st.map (jt al))).stack = (ps.map (jt al)).reverse ++ .ref (al b) :: r.map (jt al) := by
        show st.map (jt al) = _
        rw [e2]; simp [jt]
      have hdg : decode cd.code (F0 m pc ls (st.map (jt al))).pc = .ok (.invokespecial x, 3) := by rw [hb]; exact hd
      rcases hkin with rfl | rfl
      · simp only [jCws] at wd
        have w1 : Cond.methodLink (jcn (jo i)) x (jn k) ∈ jGW := wd _ List.mem_cons_self
        have w2 : Cond.instanceMethod (jn k) ∈ jGW := wd _ (List.mem_cons_of_mem _ List.mem_cons_self)
        have w3 : Cond.initialized (jn k).cls ∈ jGW := wd _ (List.mem_cons_of_mem _ (List.mem_cons_of_mem _ List.mem_cons_self))
        have w4 : jcw k ∈ jGW := wd _ (List.mem_cons_of_mem _ (List.mem_cons_of_mem _ (List.mem_cons_of_mem _ List.mem_cons_self)))
        have hemp : (jh k).isEmpty = true := by
          rcases hh with ⟨q, -⟩ | ⟨-, -, q⟩
          · cases q
          · exact q
        have hcode : (Cond.code (jn k) (jb k) (jl k) none).before args S = true := by
          rw [← hret, ← jcw_code hemp]; exact hts _ w4
        have hI := jInvI hx hown hnm (hts _ w1) (hts _ w2) hcode ⟨d2, d3⟩ rfl hla hstk hdg (p := p) (l := l) (e := e) (R := jm i) (below := below) (meth := meth) (locs := locs) (cells := c) (slots := s) (H := H)
        exact J_core (as := .ref b :: ps) (st := st) (r := r) C hE hH hS hl (jlt hc) k1 w4 w3 d4 hI hr hf hlen hg hK
      · simp only [jCws] at wd
        have w2 : Cond.instanceMethod (jn k) ∈ jGW := wd _ List.mem_cons_self
        have w3 : Cond.initialized (jn k).cls ∈ jGW := wd _ (List.mem_cons_of_mem _ List.mem_cons_self)
        have w4 : jcw k ∈ jGW := wd _ (List.mem_cons_of_mem _ (List.mem_cons_of_mem _ List.mem_cons_self))
        have hemp : (jh k).isEmpty = true := by
          rcases hh with ⟨q, -⟩ | ⟨-, -, q⟩
          · cases q
          · exact q
        have hcode : (Cond.code (jn k) (jb k) (jl k) none).before args S = true := by
          rw [← hret, ← jcw_code hemp]; exact hts _ w4
        have hI := jInvIN hx hown hnm (va_Nw.use rfl (hB.2.2.2.2.2.1 _ (hn (Or.inr rfl)))) (hts _ w2) hcode ⟨d2, d3⟩ rfl hla hstk hdg (p := p) (l := l) (e := e) (R := jm i) (below := below) (meth := meth) (locs := locs) (cells := c) (slots := s) (H := H)
        exact J_core (as := .ref b :: ps) (st := st) (r := r) C hE hH hS hl (jlt hc) k1 w4 w3 d4 hI hr hf hlen hg hK
    · exact hv9.elim
end
section
theorem jXcast : ∀ q ∈ jXL, q.2.2.2.2.1 ∈ jCast := by decide +kernel
set_option maxHeartbeats 1000000 in
theorem J_throw {l : Launch} {E : jEnv} {i pc : Nat} {q : Nat × Nat × Nat × String × String} {loc : List (Option Value)} {st : List Value} {h : List jC} {c s : Nat} {Q : jO → List jC → Prop}
    (hq : jthr i pc = some q) (h1 : jrest st = true) (h2 : 6 ≤ (jm i).frames) (h3 : 90 ≤ (jm i).locals) (h4 : c + 1 ≤ (jm i).cells) (h5 : s + 6 ≤ (jm i).slots) (hQ : Q (.inr q.2.2.2.1) h) : GO l E i pc loc st h c s Q := by
  intro p e S m args below meth cd C al0 h0 al H locs ls hE hH hS hl
  obtain ⟨hx, hb, hml, hrt, hown, hts, htab, hlk, hini, hB, hst⟩ := id C
  have mem := jthr_ok hq
  obtain ⟨o1, o2⟩ := jXo _ mem
  obtain ⟨c1, c2, c3, c4, c5⟩ := jXc _ mem
  obtain ⟨k1, k2, k3⟩ := jXk _ mem
  have ka := jXa _ mem
  have kg := jXg _ mem
  have kc := jXcast _ mem
  obtain ⟨ik, is, ic, X, text⟩ := q
  dsimp only at o1 o2 c1 c2 c3 c4 c5 k1 k2 k3 ka kg kc hQ
  rw [o1] at hown
  obtain ⟨sa, hsa⟩ := hB.2.2.2.1 (is, text) (List.mem_map.mpr ⟨_, mem, rfl⟩)
  have hd0 := jdec c1
  have hd3 := jdec c2
  have hd4 := jdec c3
  have hd6 := jdec c4
  have hd9 := jdec c5
  have hat : ∀ w ∈ vx_atS "TrainingRows" ic X jEx, w.before args S = true := by
    intro w hw
    rcases ka w hw with g | g
    · exact hts w g
    · rcases List.mem_append.mp g with g | g
      · obtain ⟨y, hy, rfl⟩ := List.mem_map.mp g
        exact va_Nw.use rfl (hB.2.2.2.2.2.2.1 y hy)
      · obtain ⟨y, hy, rfl⟩ := List.mem_map.mp g
        exact va_Nw.use rfl (hB.2.2.2.2.2.2.2.1 y hy)
  have hsum := jrest_s h1
  have key := vx_throwS (p := p) (l := l) (e := e) (R := jm i) (s := S) (m := m) (args := args) (below := below) (meth := meth) (c := cd) (H := H) (locs := locs) (cells := c) (slots := s) (cc := jb i) (pc := pc) (own := "TrainingRows") (cls := X) (text := text) (names := jEx) (ik := ik) (is := is) (ic := ic) (mc := (jm i).cells) (ms := (jm i).slots) (sa := sa) (A := jA E) (ls := ls) (rest := st.map (jt al)) (free := jA E) (Qc := fun _ _ _ _ => False) (XC := jXC E Q al0 h0)
    hx hb hst hown k3 jXf (hts _ (jgood_spec k1)) (hts _ (jgood_spec k2)) hsa hat kg hB.2.1 hB.2.2.1 hS (hl.1.trans hml.symm) hd0 hd3 hd4 hd6 hd9
    (fun x hx9 => by rw [htab, List.isEmpty_iff.mp o2] at hx9; cases hx9) (by simp [jEx]; omega) (by rw [jt_sum]; simp [jEx]; omega) h4 h5 hlk
    (fun t ha hz hk => ⟨al, h, kc, hQ, hE, ⟨hH.1.kept (fun j q hq => hk q.1 ((hH.1 j q hq).lt)), hH.2⟩, ⟨Nat.le_trans hS.1 hz, fun q g1 g2 => (hk q (Nat.lt_of_lt_of_le g1 hS.1)).trans (hS.2.1 q g1 g2)⟩⟩) hS.2.2 h4 h5
  intro T hT X9
  obtain ⟨t, a1, o, b1, b2, b3⟩ := key T hT X9
  refine ⟨t, a1, o, b1, b2, ?_⟩
  rcases b3 with ⟨b3, -⟩ | b3
  · exact b3.elim
  · exact Or.inr b3
theorem jW_congr {cA : Nat → ClassId} {al al' : Nat → Nat} {n : Nat} (ha : ∀ k, k < n → al' k = al k) (h9 : al' 9999 = al 9999) : ∀ (h : List jC) (j : Nat), j + h.length ≤ n → jwfh n h = true → jW cA al' j h = jW cA al j h
  | [], _, _, _ => rfl
  | c :: r, j, hl, hw => by
    simp only [List.length_cons] at hl
    simp only [jwfh, List.all_cons, Bool.and_eq_true] at hw
    simp only [jW]
    rw [ha j (by omega), jW_congr ha h9 r (j + 1) (by omega) hw.2]
    congr 2
    cases c with
    | inl a => obtain ⟨t, n, f⟩ := a; cases f <;> rfl
    | inr o =>
      obtain ⟨k, fs⟩ := o
      simp only [jE]
      congr 2
      exact List.map_congr_left fun v hv => jwfv_eq (List.all_eq_true.mp hw.1 v hv) ha h9
theorem jdef_ok : ∀ k, k < 5 → (∀ v ∈ jdef k, v = .int 0 ∨ v = .null) ∧ (∀ j, j < (jdef k).length → defaultValue (jY k j) = (jdef k).getD j .null) := by decide +kernel
theorem jdef_map {k : Nat} (hk : k < 5) (al : Nat → Nat) : (jdef k).map (jt al) = jdef k := by
  conv => rhs; rw [← List.map_id (jdef k)]
  refine List.map_congr_left fun v hv => ?_
  rcases (jdef_ok k hk).1 v hv with rfl | rfl <;> rfl
theorem jdef_len {k : Nat} {r : vw_C} (h : jCl[k]? = some r) : (jdef k).length = r.2.2 := by
  simp [jdef, h]
/-- behind a making: the addresses with the new one -/
def jup (al : Nat → Nat) (n q : Nat) : Nat → Nat := fun k => if k = n then q else al k
theorem jup_lt {al : Nat → Nat} {n q k : Nat} (h : k < n) : jup al n q k = al k := if_neg (by omega)
theorem jup_self {al : Nat → Nat} {n q : Nat} : jup al n q n = q := if_pos rfl
theorem jExt_new {al0 al : Nat → Nat} {h0 h : List jC} {q : Nat} {c : jC} (x : jExt al0 h0 al h) : jExt al0 h0 (jup al h.length q) (h ++ [c]) := by
  obtain ⟨x1, x2, x3⟩ := x
  refine ⟨by simp; omega, fun k hk => by rw [jup_lt (by omega)]; exact x2 k hk, fun e => ?_⟩
  simp at e; omega
set_option maxHeartbeats 1000000 in
theorem J_new {l : Launch} {E : jEnv} {i pc x k : Nat} {loc : List (Option Value)} {st : List Value} {h : List jC} {c s : Nat} {K : jK} {Q : jO → List jC → Prop}
    (hc : jcode i pc = some (.new x, 3)) (hq : jnew i x = some k) (h1 : jwf h.length loc st = true) (h2 : jwfh h.length h = true) (h3 : h.length < 9999) (h4 : c + 1 ≤ (jm i).cells) (h5 : s + (jdef k).length ≤ (jm i).slots)
    (hk : K (pc + 3) loc (.ref h.length :: st) (h ++ [.inr (k, jdef k)]) (c + 1) (s + (jdef k).length)) (hK : ∀ nx loc st h c s, K nx loc st h c s → GO l E i nx loc st h c s Q) : GO l E i pc loc st h c s Q := by
  intro p e S m args below meth cd C al0 h0 al H locs ls hE hH hS hl
  obtain ⟨hx, hb, hml, hrt, hown, hts, htab, hlk, hini, hB, hst⟩ := id C
  have hd := jdec hc
  obtain ⟨g1, g2, g3, g4⟩ := jN_all _ (jnew_ok hq)
  dsimp only at g1 g2 g3 g4
  have hcl : jCl[k]? = some (jCl[k]'(by simpa using g4)) := List.getElem?_eq_getElem _
  generalize jCl[k]'(by simpa using g4) = w at hcl
  obtain ⟨f1, f2, f3, f4, f5, f6⟩ := jcl_facts hcl
  have hlen := jdef_len hcl
  rw [hlen] at g2 h5 hk
  rw [← f6] at g1 g2 g3
  have hA : ∀ q, S.heap.size ≤ q → jA E q := fun q hq => Nat.le_trans hB.2.2.2.2.2.2.2.2.2.1 hq
  refine va_new (D := jD E) (ci := k) (fs := jdef k) (C := w.1) (T := w.2.1) (N := w.2.2) hx hb hts (jlay w (List.mem_of_getElem? hcl)) (jY k) f1 hown (hts _ (jgood_spec g1)) (hts _ (jgood_spec g2)) (hts _ (jgood_spec g3)) hB.1 hH.1 hH.2.1 hS hA hcl (fun j hj => (jdef_ok k g4).2 j (by rw [hlen]; exact hj)) h4 h5 hd (fun q H1 hP1 hD1 hS1 => ?_)
  have ha9 : ∀ j, j < h.length → jup al h.length q j = al j := fun j hj => jup_lt hj
  have h99 : jup al h.length q 9999 = al 9999 := if_neg (by omega)
  obtain ⟨b1, b2⟩ := jwf_eq h1 ha9 h99
  have e1 : jW E.2.2.1 (jup al h.length q) 0 (h ++ [.inr (k, jdef k)]) = jW E.2.2.1 al 0 h ++ [(q, .inr (k, jdef k))] := by
    rw [jW_app, jW_congr ha9 h99 h 0 (by omega) h2, Nat.zero_add, jup_self]
    simp only [jE, jdef_map g4]
  have R := hK _ _ _ _ _ _ hk p e S m args below meth cd C al0 h0 (jup al h.length q) H1 locs ls (jExt_new hE) ⟨by rw [e1]; exact hP1, by rw [e1]; exact hD1, h99.trans hH.2.2⟩ hS1 (by rw [b1]; exact hl)
  have e2 : (Value.ref h.length :: st).map (jt (jup al h.length q)) = .ref q :: st.map (jt al) := by
    rw [List.map_cons, b2]
    show Value.ref (jup al h.length q h.length) :: _ = _
    rw [jup_self]
  rw [e2] at R
  exact R
theorem jty_of {E : jEnv} {S : State} {t : Nat} {ty : FieldType} {cA' : ClassId} {tys : List (ClassId × FieldType)} (hK : va_K (jD E) jCl tys S) (hk : tys[t]? = some (E.2.2.1 t, ty)) (hK2 : va_K (jD E) jCl (tys ++ [(cA', ty)]) S) (hty : ty = .int ∨ ty = .boolean ∨ ty = .long) : cA' = E.2.2.1 t := by
  have h1 := (hK.2 t _ hk).2
  have h2 := (hK2.2 tys.length (cA', ty) (by simp)).2
  dsimp only at h1 h2
  rcases hty with rfl | rfl | rfl
  · exact Option.some.inj ((show S.vm.findClass _ = some cA' from h2).symm.trans h1)
  · exact Option.some.inj ((show S.vm.findClass _ = some cA' from h2).symm.trans h1)
  · exact Option.some.inj ((show S.vm.findClass _ = some cA' from h2).symm.trans h1)
def jsum (cc : (Nat → Int32) ⊕ (Nat → Int64)) : (Nat → Int32) ⊕ (Nat → Int64) ⊕ (Nat → UInt32) ⊕ (Nat → UInt64) ⊕ (Nat → Option Nat) := match cc with
  | .inl f => .inl f
  | .inr f => .inr (.inl f)
set_option maxHeartbeats 1000000 in
theorem J_newa {l : Launch} {E : jEnv} {i pc t : Nat} {ty : FieldType} {at9 : ArrayType} {n : Int32} {loc : List (Option Value)} {st : List Value} {h : List jC} {c s : Nat} {K : jK} {Q : jO → List jC → Prop} {cc : (Nat → Int32) ⊕ (Nat → Int64)}
    (hc : jcode i pc = some (.newarray at9, 2)) (hty : newarray.typeOf at9 = ty) (ht : (jtys E)[t]? = some (E.2.2.1 t, ty)) (ht3 : ty = .int ∨ ty = .boolean ∨ ty = .long) (hw : Cond.arrayClass ty ∈ jGW) (hcell : ∀ cA : ClassId, vp_cell cA (n.toNatClampNeg, jsum cc) = arrV cA n.toNatClampNeg (fun _ => defaultValue ty))
    (h1 : jwf h.length loc st = true) (h2 : jwfh h.length h = true) (h3 : h.length < 9999) (hn : ¬ n < 0) (hn2 : n.toNatClampNeg ≤ 100000) (h4 : c + 1 ≤ (jm i).cells) (h5 : s + n.toNatClampNeg ≤ (jm i).slots)
    (hk : K (pc + 2) loc (.ref h.length :: st) (h ++ [.inl (t, n.toNatClampNeg, cc)]) (c + 1) (s + n.toNatClampNeg)) (hK : ∀ nx loc st h c s, K nx loc st h c s → GO l E i nx loc st h c s Q) : GO l E i pc loc (.int n :: st) h c s Q := by
  intro p e S m args below meth cd C al0 h0 al H locs ls hE hH hS hl
  obtain ⟨hx, hb, hml, hrt, hown, hts, htab, hlk, hini, hB, hst⟩ := id C
  have hd := jdec hc
  have hA : ∀ q, S.heap.size ≤ q → jA E q := fun q hq => Nat.le_trans hB.2.2.2.2.2.2.2.2.2.1 hq
  have hcb : componentBytes ty ≤ 8 := by rcases ht3 with rfl | rfl | rfl <;> decide
  refine va_newa (D := jD E) (atype := at9) (ty := ty) (N' := n.toNatClampNeg) (a0 := (n.toNatClampNeg, jsum cc)) hx hb (by rw [hty]; exact hts _ hw) hty hB.1 hH.1 hH.2.1 hS hA hcell hn rfl (by have := Nat.mul_le_mul hn2 hcb; omega) h4 h5 hd (fun q cA' H1 hK1 hP1 hD1 hS1 => ?_)
  have hca := jty_of hB.1 ht hK1 ht3
  subst hca
  have ha9 : ∀ j, j < h.length → jup al h.length q j = al j := fun j hj => jup_lt hj
  have h99 : jup al h.length q 9999 = al 9999 := if_neg (by omega)
  obtain ⟨b1, b2⟩ := jwf_eq h1 ha9 h99
  have e1 : jW E.2.2.1 (jup al h.length q) 0 (h ++ [.inl (t, n.toNatClampNeg, cc)]) = jW E.2.2.1 al 0 h ++ [(q, .inl (E.2.2.1 t, n.toNatClampNeg, jsum cc))] := by
    rw [jW_app, jW_congr ha9 h99 h 0 (by omega) h2, Nat.zero_add, jup_self]
    cases cc <;> rfl
  have R := hK _ _ _ _ _ _ hk p e S m args below meth cd C al0 h0 (jup al h.length q) H1 locs ls (jExt_new hE) ⟨by rw [e1]; exact hP1, by rw [e1]; exact hD1, h99.trans hH.2.2⟩ hS1 (by rw [b1]; exact hl)
  have e2 : (Value.ref h.length :: st).map (jt (jup al h.length q)) = .ref q :: st.map (jt al) := by
    rw [List.map_cons, b2]
    show Value.ref (jup al h.length q h.length) :: _ = _
    rw [jup_self]
  rw [e2] at R
  exact R
theorem J_obj {l : Launch} {E : jEnv} {i pc x a : Nat} {loc : List (Option Value)} {st : List Value} {h : List jC} {c s : Nat} {K : jK} {Q : jO → List jC → Prop}
    (hc : jcode i pc = some (.invokespecial x, 3)) (ho : jobj i x = true) (hr : jrest st = true) (h1 : 1 ≤ (jm i).frames) (h2 : 20 ≤ (jm i).locals) (hk : K (pc + 3) loc st h c s) (hK : ∀ nx loc st h c s, K nx loc st h c s → GO l E i nx loc st h c s Q) : GO l E i pc loc (.ref a :: st) h c s Q := by
  intro p e S m args below meth cd C al0 h0 al H locs ls hE hH hS hl
  obtain ⟨hx, hb, hml, hrt, hown, hts, htab, hlk, hini, hB, hst⟩ := id C
  have hd := jdec hc
  have hm : (jo i, x) ∈ jIL := by simpa [jobj] using ho
  refine W.objInit (g := F0 m pc ls (.ref (al a) :: st.map (jt al))) hx hb hown (hts _ (jgood_spec (jI_all _ hm))) (hts _ (jgood_spec jI_o.1)) (hts _ (jgood_spec jI_o.2)) rfl (hl.1.trans hml.symm) (a := al a) (rest := st.map (jt al)) rfl hd h1 ?_ ?_
  · rw [jt_sum]
    have := jrest_s hr
    show 2 * 0 + _ + 12 ≤ _
    omega
  · exact hK _ _ _ _ _ _ hk p e S m args below meth cd C al0 h0 al H locs ls hE hH hS hl
end
section
/-- one step, and then K -/
def jstep (l : Launch) (E : jEnv) (i pc : Nat) (loc : List (Option Value)) (st : List Value) (h : List jC) (c s : Nat) (K : jK) (Q : jO → List jC → Prop) : Prop := jso (jcd i pc) fun z => jop l E i pc z.1 z.2 loc st h c s K Q
theorem J_step {l : Launch} {E : jEnv} {i pc : Nat} {loc : List (Option Value)} {st : List Value} {h : List jC} {c s : Nat} {K : jK} {Q : jO → List jC → Prop} (hj : jstep l E i pc loc st h c s K Q) (hK : ∀ nx loc st h c s, K nx loc st h c s → GO l E i nx loc st h c s Q) : GO l E i pc loc st h c s Q := by
  obtain ⟨z, hz, hj⟩ := jso_s hj
  cases hc : jcode i pc with
  | none => simp [jcd, hc] at hz
  | some r =>
    obtain ⟨raw, len⟩ := r
    simp only [jcd, hc, Option.map_some, Option.some.injEq] at hz
    subst hz
    dsimp only at hj
    have ck := jchk_of hc
    cases raw with
    | invokevirtual x =>
      simp only [jchk, beq_iff_eq] at ck; subst ck
      exact J_virt hc hj hK
    | invokestatic x =>
      simp only [jchk, beq_iff_eq] at ck; subst ck
      exact J_stat hc hj hK
    | invokespecial x =>
      simp only [jchk, beq_iff_eq] at ck; subst ck
      simp only [jnorm, jop] at hj
      split at hj
      · rename_i ho
        obtain ⟨a, r, rfl, h1, h2, h3, hj⟩ := j1r_s hj
        exact J_obj hc ho h1 h2 h3 hj hK
      · exact J_spec hc hj hK
    | new x =>
      simp only [jchk, beq_iff_eq] at ck; subst ck
      simp only [jnorm, jop] at hj
      split at hj
      · rename_i q hq
        obtain ⟨h1, h2, h3, h4, h5, hQ⟩ := hj
        exact J_throw hq h1 h2 h3 h4 h5 hQ
      · obtain ⟨k, hk, h1, h2, h3, h4, h5, hj⟩ := jso_s hj
        exact J_new hc hk h1 h2 h3 h4 h5 hj hK
    | newarray t =>
      simp only [jchk, beq_iff_eq] at ck; subst ck
      simp only [jnorm, jop] at hj
      obtain ⟨n, r, rfl, h1, h2, h3, h4, h5, h6, h7, hj⟩ := j1i_s hj
      cases t <;> dsimp only at hj
      case int => exact J_newa (t := 0) (ty := .int) (cc := .inl fun _ => 0) hc rfl rfl (Or.inl rfl) (jgood_spec jarr_ok.1) (fun _ => rfl) h1 h2 h3 h4 h5 h6 h7 hj hK
      case boolean => exact J_newa (t := 1) (ty := .boolean) (cc := .inl fun _ => 0) hc rfl rfl (Or.inr (Or.inl rfl)) (jgood_spec jarr_ok.2.1) (fun _ => rfl) h1 h2 h3 h4 h5 h6 h7 hj hK
      case long => exact J_newa (t := 2) (ty := .long) (cc := .inr fun _ => 0) hc rfl rfl (Or.inr (Or.inr rfl)) (jgood_spec jarr_ok.2.2) (fun _ => rfl) h1 h2 h3 h4 h5 h6 h7 hj hK
      all_goals exact hj.elim
    | _ => exact J_simple hc hj hK trivial
def jmem : List Nat → Nat → Bool
  | [], _ => false
  | a :: r, x => Nat.beq a x || jmem r x
/-- n steps, but not on from the places S -/
def jwp (l : Launch) (E : jEnv) (i : Nat) (S : List Nat) (Q : jO → List jC → Prop) : Nat → jK
  | 0 => fun pc loc st h c s => GO l E i pc loc st h c s Q
  | n + 1 => fun pc loc st h c s => match jmem S pc with
    | true => GO l E i pc loc st h c s Q
    | false => jstep l E i pc loc st h c s (jwp l E i S Q n) Q
theorem jwp_go {l : Launch} {E : jEnv} {i : Nat} {S : List Nat} {Q : jO → List jC → Prop} : ∀ (n : Nat) (pc : Nat) (loc : List (Option Value)) (st : List Value) (h : List jC) (c s : Nat), jwp l E i S Q n pc loc st h c s → GO l E i pc loc st h c s Q
  | 0, _, _, _, _, _, _, hj => hj
  | n + 1, pc, loc, st, h, c, s, hj => by
    unfold jwp at hj
    split at hj
    · exact hj
    · exact J_step hj (jwp_go n)
theorem J_wp {l : Launch} {E : jEnv} {i pc : Nat} {loc : List (Option Value)} {st : List Value} {h : List jC} {c s : Nat} {Q : jO → List jC → Prop} (S : List Nat) (n : Nat) (hj : jstep l E i pc loc st h c s (jwp l E i S Q n) Q) : GO l E i pc loc st h c s Q := J_step hj (jwp_go n)
theorem GO_imp {l : Launch} {E : jEnv} {i pc : Nat} {loc : List (Option Value)} {st : List Value} {h : List jC} {c s : Nat} {Q Q' : jO → List jC → Prop} (hq : ∀ o h', Q o h' → Q' o h') (hg : GO l E i pc loc st h c s Q) : GO l E i pc loc st h c s Q' := by
  intro p e S m args below meth cd C al0 h0 al H locs ls hE hH hS hl T hT X
  obtain ⟨t, a1, o, b1, b2, b3⟩ := hg p e S m args below meth cd C al0 h0 al H locs ls hE hH hS hl T hT X
  refine ⟨t, a1, o, b1, b2, ?_⟩
  rcases b3 with ⟨⟨v, al', h', e1, e2, e3⟩, b4⟩ | ⟨q, e1, X, ce, L, ⟨al', h', e2, e3, e4⟩, b4⟩
  · exact Or.inl ⟨⟨v, al', h', e1, hq _ _ e2, e3⟩, b4⟩
  · exact Or.inr ⟨q, e1, X, ce, L, ⟨al', h', e2, hq _ _ e3, e4⟩, b4⟩
/-- fewer known locals -/
theorem GO_loc {l : Launch} {E : jEnv} {i pc : Nat} {loc loc' : List (Option Value)} {st : List Value} {h : List jC} {c s : Nat} {Q : jO → List jC → Prop} (hle : ∀ (k : Nat) (v : Value), loc'[k]? = some (some v) → loc[k]? = some (some v)) (hg : GO l E i pc loc' st h c s Q) : GO l E i pc loc st h c s Q := by
  intro p e S m args below meth cd C al0 h0 al H locs ls hE hH hS hl
  refine hg p e S m args below meth cd C al0 h0 al H locs ls hE hH hS ⟨hl.1, hl.2.1, fun q hq => hl.2.2 q ?_⟩
  obtain ⟨⟨k, v⟩, hm, rfl⟩ := List.mem_map.mp hq
  obtain ⟨j, h1, h2⟩ := (jlist_mem _ 0 (k, v)).mp hm
  exact List.mem_map.mpr ⟨(k, v), (jlist_mem _ 0 (k, v)).mpr ⟨j, h1, hle _ _ h2⟩, rfl⟩
end
section
/-! goal first: a rule an instruction, over GO -/
section JR
variable {l : Launch} {E : jEnv} {i pc : Nat} {nx : Nat} {loc : List (Option Value)} {st : List Value} {h : List jC} {c s : Nat} {Q : jO → List jC → Prop}
theorem J_s {ins : Instr} (hz : jcd i pc = some (ins, nx)) (hj : jop l E i pc ins nx loc st h c s (fun nx loc st h c s => GO l E i nx loc st h c s Q) Q) : GO l E i pc loc st h c s Q := by
  refine J_step (K := fun nx loc st h c s => GO l E i nx loc st h c s Q) ?_ (fun _ _ _ _ _ _ h => h)
  unfold jstep
  rw [hz]
  exact hj
theorem R_iload {k : Nat} {x : Int32} (hz : jcd i pc = some (.iload k, nx)) (hg : loc[k]? = some (some (.int x))) (kk : GO l E i nx loc (.int x :: st) h c s Q) : GO l E i pc loc st h c s Q := J_s hz (by simp only [jop, jgi, hg]; exact kk)
theorem R_lload {k : Nat} {x : Int64} (hz : jcd i pc = some (.lload k, nx)) (hg : loc[k]? = some (some (.long x))) (kk : GO l E i nx loc (.long x :: st) h c s Q) : GO l E i pc loc st h c s Q := J_s hz (by simp only [jop, jgl, hg]; exact kk)
theorem R_aload {k : Nat} {x : Nat} (hz : jcd i pc = some (.aload k, nx)) (hg : loc[k]? = some (some (.ref x))) (kk : GO l E i nx loc (.ref x :: st) h c s Q) : GO l E i pc loc st h c s Q := J_s hz (by simp only [jop, jgr, hg]; exact kk)
theorem R_istore {k : Nat} {x : Int32} {loc' : List (Option Value)} (hz : jcd i pc = some (.istore k, nx)) (hf : jfree loc k = true) (hs : loc.set k (some (.int x)) = loc') (kk : GO l E i nx loc' st h c s Q) : GO l E i pc loc (.int x :: st) h c s Q := J_s hz ⟨hf, by rw [hs]; exact kk⟩
theorem R_astore {k : Nat} {x : Nat} {loc' : List (Option Value)} (hz : jcd i pc = some (.astore k, nx)) (hf : jfree loc k = true) (hs : loc.set k (some (.ref x)) = loc') (kk : GO l E i nx loc' st h c s Q) : GO l E i pc loc (.ref x :: st) h c s Q := J_s hz ⟨hf, by rw [hs]; exact kk⟩
theorem R_iinc {k : Nat} {n : Int} {x v : Int32} {loc' : List (Option Value)} (hz : jcd i pc = some (.iinc k n, nx)) (hg : loc[k]? = some (some (.int x))) (hf : jfree loc k = true) (hv : Int32.ofInt n = v) (hs : loc.set k (some (.int (x + v))) = loc') (kk : GO l E i nx loc' st h c s Q) : GO l E i pc loc st h c s Q := J_s hz (by simp only [jop, jgi, hg]; exact ⟨hf, by rw [hv, hs]; exact kk⟩)
theorem R_iconst {n : Int} {v : Int32} (hz : jcd i pc = some (.iconst n, nx)) (hv : Int32.ofInt n = v) (kk : GO l E i nx loc (.int v :: st) h c s Q) : GO l E i pc loc st h c s Q := J_s hz (by subst hv; exact kk)
theorem R_bipush {n : Int} {v : Int32} (hz : jcd i pc = some (.bipush n, nx)) (hv : (Int8.ofInt n).toInt32 = v) (kk : GO l E i nx loc (.int v :: st) h c s Q) : GO l E i pc loc st h c s Q := J_s hz (by subst hv; exact kk)
theorem R_sipush {n : Int} {v : Int32} (hz : jcd i pc = some (.sipush n, nx)) (hv : (Int16.ofInt n).toInt32 = v) (kk : GO l E i nx loc (.int v :: st) h c s Q) : GO l E i pc loc st h c s Q := J_s hz (by subst hv; exact kk)
theorem R_lconst {n : Fin 2} {v : Int64} (hz : jcd i pc = some (.lconst n, nx)) (hv : Int64.ofNat n.val = v) (kk : GO l E i nx loc (.long v :: st) h c s Q) : GO l E i pc loc st h c s Q := J_s hz (by subst hv; exact kk)
theorem R_ldc2 {x : Nat} {v : Int64} (hz : jcd i pc = some (.ldc2_w x, nx)) (hv : jlong i x = some v) (kk : GO l E i nx loc (.long v :: st) h c s Q) : GO l E i pc loc st h c s Q := J_s hz (by simp only [jop, jso, hv]; exact kk)
theorem R_iadd {x y : Int32} (hz : jcd i pc = some (.iadd, nx)) (kk : GO l E i nx loc (.int (x + y) :: st) h c s Q) : GO l E i pc loc (.int y :: .int x :: st) h c s Q := J_s hz kk
theorem R_isub {x y : Int32} (hz : jcd i pc = some (.isub, nx)) (kk : GO l E i nx loc (.int (x - y) :: st) h c s Q) : GO l E i pc loc (.int y :: .int x :: st) h c s Q := J_s hz kk
theorem R_imul {x y : Int32} (hz : jcd i pc = some (.imul, nx)) (kk : GO l E i nx loc (.int (x * y) :: st) h c s Q) : GO l E i pc loc (.int y :: .int x :: st) h c s Q := J_s hz kk
theorem R_iand {x y : Int32} (hz : jcd i pc = some (.iand, nx)) (kk : GO l E i nx loc (.int (x &&& y) :: st) h c s Q) : GO l E i pc loc (.int y :: .int x :: st) h c s Q := J_s hz kk
theorem R_ior {x y : Int32} (hz : jcd i pc = some (.ior, nx)) (kk : GO l E i nx loc (.int (x ||| y) :: st) h c s Q) : GO l E i pc loc (.int y :: .int x :: st) h c s Q := J_s hz kk
theorem R_ixor {x y : Int32} (hz : jcd i pc = some (.ixor, nx)) (kk : GO l E i nx loc (.int (x ^^^ y) :: st) h c s Q) : GO l E i pc loc (.int y :: .int x :: st) h c s Q := J_s hz kk
theorem R_ishl {x y : Int32} (hz : jcd i pc = some (.ishl, nx)) (kk : GO l E i nx loc (.int (x <<< (y &&& 31)) :: st) h c s Q) : GO l E i pc loc (.int y :: .int x :: st) h c s Q := J_s hz kk
theorem R_ishr {x y : Int32} (hz : jcd i pc = some (.ishr, nx)) (kk : GO l E i nx loc (.int (x >>> (y &&& 31)) :: st) h c s Q) : GO l E i pc loc (.int y :: .int x :: st) h c s Q := J_s hz kk
theorem R_idiv {x y : Int32} (hz : jcd i pc = some (.idiv, nx)) (hy : ¬ y = 0) (kk : GO l E i nx loc (.int (x / y) :: st) h c s Q) : GO l E i pc loc (.int y :: .int x :: st) h c s Q := J_s hz ⟨hy, kk⟩
theorem R_irem {x y : Int32} (hz : jcd i pc = some (.irem, nx)) (hy : ¬ y = 0) (kk : GO l E i nx loc (.int (x - x / y * y) :: st) h c s Q) : GO l E i pc loc (.int y :: .int x :: st) h c s Q := J_s hz ⟨hy, kk⟩
theorem R_i2l {x : Int32} (hz : jcd i pc = some (.i2l, nx)) (kk : GO l E i nx loc (.long x.toInt64 :: st) h c s Q) : GO l E i pc loc (.int x :: st) h c s Q := J_s hz kk
theorem R_l2i {x : Int64} (hz : jcd i pc = some (.l2i, nx)) (kk : GO l E i nx loc (.int x.toInt32 :: st) h c s Q) : GO l E i pc loc (.long x :: st) h c s Q := J_s hz kk
theorem R_land {x y : Int64} (hz : jcd i pc = some (.land, nx)) (kk : GO l E i nx loc (.long (x &&& y) :: st) h c s Q) : GO l E i pc loc (.long y :: .long x :: st) h c s Q := J_s hz kk
theorem R_lor {x y : Int64} (hz : jcd i pc = some (.lor, nx)) (kk : GO l E i nx loc (.long (x ||| y) :: st) h c s Q) : GO l E i pc loc (.long y :: .long x :: st) h c s Q := J_s hz kk
theorem R_lshl {x : Int64} {y : Int32} (hz : jcd i pc = some (.lshl, nx)) (kk : GO l E i nx loc (.long (x <<< (y.toInt64 &&& 63)) :: st) h c s Q) : GO l E i pc loc (.int y :: .long x :: st) h c s Q := J_s hz kk
theorem R_lshr {x : Int64} {y : Int32} (hz : jcd i pc = some (.lshr, nx)) (kk : GO l E i nx loc (.long (x >>> (y.toInt64 &&& 63)) :: st) h c s Q) : GO l E i pc loc (.int y :: .long x :: st) h c s Q := J_s hz kk
theorem R_lushr {x : Int64} {y : Int32} (hz : jcd i pc = some (.lushr, nx)) (kk : GO l E i nx loc (.long (x.toUInt64 >>> (y.toInt64.toUInt64 &&& Int64.toUInt64 63)).toInt64 :: st) h c s Q) : GO l E i pc loc (.int y :: .long x :: st) h c s Q := J_s hz kk
theorem R_lcmp {x y : Int64} (hz : jcd i pc = some (.lcmp, nx)) (kk : GO l E i nx loc (.int (lg_cmp x y) :: st) h c s Q) : GO l E i pc loc (.long y :: .long x :: st) h c s Q := J_s hz kk
theorem R_dup {a : Nat} (hz : jcd i pc = some (.dup, nx)) (kk : GO l E i nx loc (.ref a :: .ref a :: st) h c s Q) : GO l E i pc loc (.ref a :: st) h c s Q := J_s hz kk
theorem R_dup2 {a : Nat} {j : Int32} (hz : jcd i pc = some (.dup2, nx)) (kk : GO l E i nx loc (.int j :: .ref a :: .int j :: .ref a :: st) h c s Q) : GO l E i pc loc (.int j :: .ref a :: st) h c s Q := J_s hz kk
theorem R_goto {t : Int} {tn : Nat} (hz : jcd i pc = some (.goto t, nx)) (ht : t.toNat = tn) (kk : GO l E i tn loc st h c s Q) : GO l E i pc loc st h c s Q := J_s hz (by subst ht; exact kk)
theorem R_if {cd : ClassFile.Cond} {t : Int} {tn : Nat} {x : Int32} (hz : jcd i pc = some (.ifCond cd t, nx)) (ht : t.toNat = tn) (k1 : jcnd cd x 0 → GO l E i tn loc st h c s Q) (k2 : ¬ jcnd cd x 0 → GO l E i nx loc st h c s Q) : GO l E i pc loc (.int x :: st) h c s Q := J_s hz ⟨by subst ht; exact k1, k2⟩
theorem R_icmp {cd : ClassFile.Cond} {t : Int} {tn : Nat} {x y : Int32} (hz : jcd i pc = some (.if_icmp cd t, nx)) (ht : t.toNat = tn) (k1 : jcnd cd x y → GO l E i tn loc st h c s Q) (k2 : ¬ jcnd cd x y → GO l E i nx loc st h c s Q) : GO l E i pc loc (.int y :: .int x :: st) h c s Q := J_s hz ⟨by subst ht; exact k1, k2⟩
theorem R_get {x a k f : Nat} {fs : List Value} {v : Value} (hz : jcd i pc = some (.getfield x, nx)) (hq : jfld i x = some (k, f)) (ho : h[a]? = some (.inr (k, fs))) (hv : fs[f]? = some v) (kk : GO l E i nx loc (v :: st) h c s Q) : GO l E i pc loc (.ref a :: st) h c s Q := J_s hz (by simp only [jop, j1r, jso, hq, job, ho, hv]; exact ⟨trivial, kk⟩)
theorem R_puti {x a k f : Nat} {fs : List Value} {v : Int32} {h' : List jC} (hz : jcd i pc = some (.putfield x, nx)) (hq : jfld i x = some (k, f)) (hk : jfk k f = 0) (ho : h[a]? = some (.inr (k, fs))) (hl : f < fs.length) (hh : h.set a (.inr (k, fs.set f (.int v))) = h') (kk : GO l E i nx loc st h' c s Q) : GO l E i pc loc (.int v :: .ref a :: st) h c s Q := J_s hz (by simp only [jop, jso, hq, job, ho]; exact ⟨hk, trivial, hl, by rw [hh]; exact kk⟩)
theorem R_putr {x a k f v : Nat} {fs : List Value} {h' : List jC} (hz : jcd i pc = some (.putfield x, nx)) (hq : jfld i x = some (k, f)) (hk : jfk k f = 1 ∧ (jn i).name = "<init>" ∧ jo i = k) (ho : h[a]? = some (.inr (k, fs))) (hl : f < fs.length) (hh : h.set a (.inr (k, fs.set f (.ref v))) = h') (kk : GO l E i nx loc st h' c s Q) : GO l E i pc loc (.ref v :: .ref a :: st) h c s Q := J_s hz (by simp only [jop, jso, hq, job, ho]; exact ⟨hk.1, hk.2.1, hk.2.2, trivial, hl, by rw [hh]; exact kk⟩)
theorem R_sld {j : Int32} (hz : jcd i pc = some (.iaload, nx)) (hin : vp_in j E.2.2.2.2.2.1) (kk : GO l E i nx loc (.int (E.2.2.2.2.2.2 j.toNatClampNeg) :: st) h c s Q) : GO l E i pc loc (.int j :: .ref 9999 :: st) h c s Q := J_s hz (Or.inl ⟨rfl, hin, kk⟩)
theorem R_slen (hz : jcd i pc = some (.arraylength, nx)) (kk : GO l E i nx loc (.int (Int32.ofNat E.2.2.2.2.2.1) :: st) h c s Q) : GO l E i pc loc (.ref 9999 :: st) h c s Q := J_s hz (Or.inl ⟨rfl, kk⟩)
theorem R_ild {a n : Nat} {f : Nat → Int32} {j v : Int32} (hz : jcd i pc = some (.iaload, nx)) (ho : h[a]? = some (.inl (0, n, .inl f))) (hin : vp_in j n) (hv : f j.toNatClampNeg = v) (kk : GO l E i nx loc (.int v :: st) h c s Q) : GO l E i pc loc (.int j :: .ref a :: st) h c s Q := J_s hz (Or.inr (by simp only [jar, ho]; exact ⟨trivial, hin, by rw [hv]; exact kk⟩))
theorem R_zld {a n : Nat} {f : Nat → Int32} {j v : Int32} (hz : jcd i pc = some (.baload, nx)) (ho : h[a]? = some (.inl (1, n, .inl f))) (hin : vp_in j n) (hv : f j.toNatClampNeg = v) (kk : GO l E i nx loc (.int v :: st) h c s Q) : GO l E i pc loc (.int j :: .ref a :: st) h c s Q := J_s hz (by simp only [jop, jia, jar, ho]; exact ⟨trivial, hin, by rw [hv]; exact kk⟩)
theorem R_lld {a n : Nat} {f : Nat → Int64} {j : Int32} {v : Int64} (hz : jcd i pc = some (.laload, nx)) (ho : h[a]? = some (.inl (2, n, .inr f))) (hin : vp_in j n) (hv : f j.toNatClampNeg = v) (kk : GO l E i nx loc (.long v :: st) h c s Q) : GO l E i pc loc (.int j :: .ref a :: st) h c s Q := J_s hz (by simp only [jop, jia, jal, ho]; exact ⟨trivial, hin, by rw [hv]; exact kk⟩)
theorem R_ist {a n : Nat} {f : Nat → Int32} {j x : Int32} {h' : List jC} (hz : jcd i pc = some (.iastore, nx)) (ho : h[a]? = some (.inl (0, n, .inl f))) (hin : vp_in j n) (hh : h.set a (.inl (0, n, .inl (upd f j.toNatClampNeg x))) = h') (kk : GO l E i nx loc st h' c s Q) : GO l E i pc loc (.int x :: .int j :: .ref a :: st) h c s Q := J_s hz (by simp only [jop, jiia, jar, ho]; exact ⟨trivial, hin, by rw [hh]; exact kk⟩)
theorem R_zst {a n : Nat} {f : Nat → Int32} {j x : Int32} {h' : List jC} (hz : jcd i pc = some (.bastore, nx)) (ho : h[a]? = some (.inl (1, n, .inl f))) (hin : vp_in j n) (hh : h.set a (.inl (1, n, .inl (upd f j.toNatClampNeg (x &&& 1)))) = h') (kk : GO l E i nx loc st h' c s Q) : GO l E i pc loc (.int x :: .int j :: .ref a :: st) h c s Q := J_s hz (by simp only [jop, jiia, jar, ho]; exact ⟨trivial, hin, by rw [hh]; exact kk⟩)
theorem R_lst {a n : Nat} {f : Nat → Int64} {j : Int32} {x : Int64} {h' : List jC} (hz : jcd i pc = some (.lastore, nx)) (ho : h[a]? = some (.inl (2, n, .inr f))) (hin : vp_in j n) (hh : h.set a (.inl (2, n, .inr (vp_updL f j.toNatClampNeg x))) = h') (kk : GO l E i nx loc st h' c s Q) : GO l E i pc loc (.long x :: .int j :: .ref a :: st) h c s Q := J_s hz (by simp only [jop, jlia, jal, ho]; exact ⟨trivial, hin, by rw [hh]; exact kk⟩)
theorem R_alen {a n : Nat} {f : Nat → Int32} {v : Int32} (hz : jcd i pc = some (.arraylength, nx)) (ho : h[a]? = some (.inl (0, n, .inl f))) (hv : Int32.ofNat n = v) (kk : GO l E i nx loc (.int v :: st) h c s Q) : GO l E i pc loc (.ref a :: st) h c s Q := J_s hz (Or.inr (by simp only [jar, ho]; exact ⟨trivial, by rw [hv]; exact kk⟩))
theorem R_iret {v : Int32} (hz : jcd i pc = some (.ireturn, nx)) (hr : (jr i == some .boolean) = false ∨ v &&& 1 = v) (h1 : c ≤ jrc i ∧ s ≤ jrs i) (hQ : Q (.inl (some (.int v))) h) : GO l E i pc loc [.int v] h c s Q := J_s hz ⟨fun e => hr.elim (fun z => by rw [e] at z; cases z) id, h1.1, h1.2, hQ⟩
theorem R_vret (hz : jcd i pc = some (.return_, nx)) (h1 : c ≤ jrc i ∧ s ≤ jrs i) (hQ : Q (.inl none) h) : GO l E i pc loc [] h c s Q := J_s hz ⟨h1.1, h1.2, hQ⟩
theorem R_throw {x : Nat} {q : Nat × Nat × Nat × String × String} {X : String} (hz : jcd i pc = some (.new x, nx)) (hq : jthr i pc = some q) (hX : q.2.2.2.1 = X) (h1 : jrest st = true) (h2 : 6 ≤ (jm i).frames ∧ 90 ≤ (jm i).locals) (h3 : c + 1 ≤ (jm i).cells ∧ s + 6 ≤ (jm i).slots) (hQ : Q (.inr X) h) : GO l E i pc loc st h c s Q := J_s hz (by simp only [jop, hq]; exact ⟨h1, h2.1, h2.2, h3.1, h3.2, by rw [hX]; exact hQ⟩)
theorem R_obj {x a : Nat} (hz : jcd i pc = some (.invokespecial x, nx)) (ho : jobj i x = true) (hr : jrest st = true) (h1 : 1 ≤ (jm i).frames ∧ 20 ≤ (jm i).locals) (kk : GO l E i nx loc st h c s Q) : GO l E i pc loc (.ref a :: st) h c s Q := J_s hz (by simp only [jop, ho]; exact ⟨hr, h1.1, h1.2, kk⟩)
/-- a callee's end, seen by its caller -/
def jBk (l : Launch) (E : jEnv) (i pc nx k : Nat) (loc : List (Option Value)) (r : List Value) (h : List jC) (c s : Nat) (Q : jO → List jC → Prop) : jO → List jC → Prop := jback i pc nx k loc r h c s (fun nx loc st h c s => GO l E i nx loc st h c s Q) Q
theorem R_cv {x k a : Nat} {ps r : List Value} {loc' : List (Option Value)} (hz : jcd i pc = some (.invokevirtual x, nx)) (hq : jcal i x = some (0, k)) (ht : jtake (jp k + 1) [] st = some (.ref a :: ps, r)) (hr : jrest r = true) (hf : jfit i k c s = true) (hlen : (jent (.ref a :: ps)).length ≤ jl k) (hl : jpad (jl k) (jent (.ref a :: ps)) = loc') (ho : job h[a]? (jo k) fun _ => True) (hg : GO l E k 0 loc' [] h 0 0 (jBk l E i pc nx k loc r h c s Q)) : GO l E i pc loc st h c s Q := J_s hz (by
  simp only [jop, jcall, hq, jso]
  refine ⟨List.mem_cons_self, ?_⟩
  rw [show jp k + (if 0 = 1 ∨ 0 = 4 ∨ 0 = 6 then 0 else 1) = jp k + 1 from rfl, ht]
  refine ⟨hr, hf, hlen, fun _ => ho, fun e => ?_, by rw [hl]; exact hg⟩
  rcases e with e | e <;> cases e)
theorem R_cs {x k kind : Nat} {as r : List Value} {loc' : List (Option Value)} (hz : jcd i pc = some (.invokestatic x, nx)) (hq : jcal i x = some (kind, k)) (hk : kind = 1 ∨ kind = 4 ∨ kind = 6) (ht : jtake (jp k) [] st = some (as, r)) (hr : jrest r = true) (hf : jfit i k c s = true) (hlen : (jent as).length ≤ jl k) (hl : jpad (jl k) (jent as) = loc') (hg : GO l E k 0 loc' [] h 0 0 (jBk l E i pc nx k loc r h c s Q)) : GO l E i pc loc st h c s Q := J_s hz (by
  simp only [jop, jcall, hq, jso]
  refine ⟨by rcases hk with rfl | rfl | rfl <;> decide, ?_⟩
  rw [if_pos hk, Nat.add_zero, ht]
  refine ⟨hr, hf, hlen, fun e => ?_, fun e => ?_, by rw [hl]; exact hg⟩
  · rcases hk with rfl | rfl | rfl <;> cases e
  · rcases hk with rfl | rfl | rfl <;> rcases e with e | e <;> cases e)
theorem R_ci {x k kind a : Nat} {ps r : List Value} {loc' : List (Option Value)} (hz : jcd i pc = some (.invokespecial x, nx)) (hob : jobj i x = false) (hq : jcal i x = some (kind, k)) (hk : kind = 2 ∨ kind = 5) (ht : jtake (jp k + 1) [] st = some (.ref a :: ps, r)) (hr : jrest r = true) (hf : jfit i k c s = true) (hlen : (jent (.ref a :: ps)).length ≤ jl k) (hl : jpad (jl k) (jent (.ref a :: ps)) = loc') (hg : GO l E k 0 loc' [] h 0 0 (jBk l E i pc nx k loc r h c s Q)) : GO l E i pc loc st h c s Q := J_s hz (by
  simp only [jop, hob, jcall, hq, jso]
  refine ⟨by rcases hk with rfl | rfl <;> decide, ?_⟩
  rw [if_neg (by rcases hk with rfl | rfl <;> decide), ht]
  refine ⟨hr, hf, hlen, fun e => ?_, fun _ => trivial, by rw [hl]; exact hg⟩
  rcases hk with rfl | rfl <;> cases e)
theorem jBk_ret {k : Nat} {r : List Value} {h' : List jC} {v : Option Value} (hl : h'.length = h.length) (hk : jrc k = 0 ∧ jrs k = 0) (kk : GO l E i nx loc (v.toList ++ r) h' c s Q) : jBk l E i pc nx k loc r h c s Q (.inl v) h' := ⟨Or.inl hl, by rw [hk.1, hk.2]; exact kk⟩
theorem jBk_retw {k c' s' : Nat} {r : List Value} {h' : List jC} {v : Option Value} (hl : h'.length = h.length ∨ jwf h.length loc r = true) (hc : c + jrc k = c') (hs : s + jrs k = s') (kk : GO l E i nx loc (v.toList ++ r) h' c' s' Q) : jBk l E i pc nx k loc r h c s Q (.inl v) h' := ⟨hl, by rw [hc, hs]; exact kk⟩
theorem jBk_thr {k : Nat} {r : List Value} {h' : List jC} {X : String} (hl : h'.length = h.length) (hh : jHC.getD i [] = [] ∧ (jh i).isEmpty = true) (hQ : Q (.inr X) h') : jBk l E i pc nx k loc r h c s Q (.inr X) h' := ⟨Or.inl hl, by
  have e : jhan i pc X = none := by unfold jhan; rw [hh.1]; rfl
  rw [e]
  exact ⟨hh.2, hQ⟩⟩
theorem jBk_cat {k q j nx2 c' s' : Nat} {r : List Value} {loc' : List (Option Value)} {h' : List jC} {X : String} (hl : h'.length = h.length) (hq : jhan i pc X = some q) (hz : jcd i q = some (.astore j, nx2)) (hf : jfree loc j = true) (hs : loc.set j none = loc') (hc : c + (jm k).cells = c') (hs2 : s + (jm k).slots = s') (kk : GO l E i nx2 loc' [] h' c' s' Q) : jBk l E i pc nx k loc r h c s Q (.inr X) h' := ⟨Or.inl hl, by
  rw [hq]
  simp only [jso, hz]
  exact ⟨hf, by rw [hs, hc, hs2]; exact kk⟩⟩
theorem R_new {x k : Nat} {c' s' : Nat} {h' : List jC} {n : Nat} (hz : jcd i pc = some (.new x, nx)) (ht : jthr i pc = none) (hq : jnew i x = some k) (hn : h.length = n) (h1 : jwf n loc st = true) (h2 : jwfh n h = true) (h3 : n < 9999) (hc : c + 1 = c') (hs : s + (jdef k).length = s') (h4 : c' ≤ (jm i).cells) (h5 : s' ≤ (jm i).slots) (hh : h ++ [.inr (k, jdef k)] = h') (kk : GO l E i nx loc (.ref n :: st) h' c' s' Q) : GO l E i pc loc st h c s Q := J_s hz (by
  subst hn; subst hc; subst hs; subst hh
  simp only [jop, ht, jso, hq]
  exact ⟨h1, h2, h3, h4, h5, kk⟩)
theorem R_newi {v : Int32} {c' s' : Nat} {h' : List jC} {n N : Nat} (hz : jcd i pc = some (.newarray .int, nx)) (hn : h.length = n) (hN : v.toNatClampNeg = N) (h1 : jwf n loc st = true) (h2 : jwfh n h = true) (h3 : n < 9999) (hv : ¬ v < 0) (hv2 : N ≤ 100000) (hc : c + 1 = c') (hs : s + N = s') (h4 : c' ≤ (jm i).cells) (h5 : s' ≤ (jm i).slots) (hh : h ++ [.inl (0, N, .inl fun _ => 0)] = h') (kk : GO l E i nx loc (.ref n :: st) h' c' s' Q) : GO l E i pc loc (.int v :: st) h c s Q := J_s hz (by
  subst hn; subst hN; subst hc; subst hs; subst hh
  exact ⟨h1, h2, h3, hv, hv2, h4, h5, kk⟩)
theorem R_newz {v : Int32} {c' s' : Nat} {h' : List jC} {n N : Nat} (hz : jcd i pc = some (.newarray .boolean, nx)) (hn : h.length = n) (hN : v.toNatClampNeg = N) (h1 : jwf n loc st = true) (h2 : jwfh n h = true) (h3 : n < 9999) (hv : ¬ v < 0) (hv2 : N ≤ 100000) (hc : c + 1 = c') (hs : s + N = s') (h4 : c' ≤ (jm i).cells) (h5 : s' ≤ (jm i).slots) (hh : h ++ [.inl (1, N, .inl fun _ => 0)] = h') (kk : GO l E i nx loc (.ref n :: st) h' c' s' Q) : GO l E i pc loc (.int v :: st) h c s Q := J_s hz (by
  subst hn; subst hN; subst hc; subst hs; subst hh
  exact ⟨h1, h2, h3, hv, hv2, h4, h5, kk⟩)
theorem R_newl {v : Int32} {c' s' : Nat} {h' : List jC} {n N : Nat} (hz : jcd i pc = some (.newarray .long, nx)) (hn : h.length = n) (hN : v.toNatClampNeg = N) (h1 : jwf n loc st = true) (h2 : jwfh n h = true) (h3 : n < 9999) (hv : ¬ v < 0) (hv2 : N ≤ 100000) (hc : c + 1 = c') (hs : s + N = s') (h4 : c' ≤ (jm i).cells) (h5 : s' ≤ (jm i).slots) (hh : h ++ [.inl (2, N, .inr fun _ => 0)] = h') (kk : GO l E i nx loc (.ref n :: st) h' c' s' Q) : GO l E i pc loc (.int v :: st) h c s Q := J_s hz (by
  subst hn; subst hN; subst hc; subst hs; subst hh
  exact ⟨h1, h2, h3, hv, hv2, h4, h5, kk⟩)
end JR
end

theorem jcast_nc : ∀ a ∈ jCast, ∀ b ∈ jCast, b ≠ a → (a, b) ∈ jNcL := by decide +kernel
def jhf (pc : Nat) (X : String) (q : Nat × Nat × Nat × String) : Bool := q.1 ≤ pc && pc < q.2.1 && q.2.2.2 == X
theorem jhan_split {own X : String} {pc : Nat} : ∀ (A : List (Nat × Nat × Nat × Nat)) (B : List (Nat × Nat × Nat × String)) (b : Nat × Nat × Nat × String), A.length = B.length →
    (∀ q ∈ A.zip B, q.1.1 = q.2.1 ∧ q.1.2.1 = q.2.2.1 ∧ q.1.2.2.1 = q.2.2.2.1 ∧ q.1.2.2.2 ≠ 0 ∧ jgood (Cond.classLink own q.1.2.2.2 q.2.2.2.2) = true ∧ q.2.2.2.2 ∈ jCast) →
    B.find? (jhf pc X) = some b →
    ∃ (pre : List ExceptionTableEntry) (x : ExceptionTableEntry) (suf : List ExceptionTableEntry), tableOf A = pre ++ x :: suf ∧ x.handlerPc = b.2.2.1 ∧ covers x pc = true ∧ x.catchType ≠ 0 ∧ Cond.classLink own x.catchType X ∈ jGW ∧
      ∀ z ∈ pre, covers z pc = false ∨ (z.catchType ≠ 0 ∧ ∃ nm, Cond.classLink own z.catchType nm ∈ jGW ∧ nm ∈ jCast ∧ nm ≠ X)
  | [], [], b, _, _, hf => by cases hf
  | [], _ :: _, b, hl, _, _ => by simp at hl
  | _ :: _, [], b, hl, _, _ => by simp at hl
  | a :: A, c :: B, b, hl, hz, hf => by
    obtain ⟨e1, e2, e3, e4, e5, e6⟩ := hz (a, c) (by simp)
    dsimp only at e1 e2 e3 e4 e5 e6
    by_cases hc : jhf pc X c = true
    · rw [List.find?_cons_of_pos hc] at hf
      cases hf
      simp only [jhf, Bool.and_eq_true, decide_eq_true_eq, beq_iff_eq] at hc
      refine ⟨[], ⟨a.1, a.2.1, a.2.2.1, a.2.2.2⟩, tableOf A, rfl, e3, ?_, e4, ?_, fun z hz => by cases hz⟩
      · simp only [covers, Bool.and_eq_true, decide_eq_true_eq]
        omega
      · rw [← hc.2]; exact jgood_spec e5
    · rw [List.find?_cons_of_neg hc] at hf
      obtain ⟨pre, x, suf, h1, h2, h3, h4, h5, h6⟩ := jhan_split A B b (by simpa using hl) (fun q hq => hz q (by simp [hq])) hf
      refine ⟨⟨a.1, a.2.1, a.2.2.1, a.2.2.2⟩ :: pre, x, suf, ?_, h2, h3, h4, h5, fun z hz => ?_⟩
      · show _ :: tableOf A = _; rw [h1]; rfl
      · rcases List.mem_cons.mp hz with rfl | hz
        · by_cases hcov : a.1 ≤ pc ∧ pc < a.2.1
          · right
            refine ⟨e4, c.2.2.2, jgood_spec e5, e6, fun e => hc ?_⟩
            simp only [jhf, Bool.and_eq_true, decide_eq_true_eq, beq_iff_eq]
            exact ⟨by omega, e⟩
          · left
            simp only [covers, Bool.and_eq_false_iff, decide_eq_false_iff_not]
            omega
        · exact h6 z hz
theorem jwfv_eq {n : Nat} {al al' : Nat → Nat} {v : Value} (h : jwfv n v = true) (ha : ∀ k, k < n → al' k = al k) (h9 : al' 9999 = al 9999) : jt al' v = jt al v := by
  cases v with
  | ref k =>
    simp only [jwfv, Bool.or_eq_true, decide_eq_true_eq, beq_iff_eq] at h
    rcases h with h | h
    · show Value.ref (al' k) = .ref (al k); rw [ha k h]
    · subst h; show Value.ref (al' 9999) = .ref (al 9999); rw [h9]
  | _ => rfl
theorem jwf_eq {n : Nat} {loc : List (Option Value)} {r : List Value} {al al' : Nat → Nat} (h : jwf n loc r = true) (ha : ∀ k, k < n → al' k = al k) (h9 : al' 9999 = al 9999) : jlv al' loc = jlv al loc ∧ r.map (jt al') = r.map (jt al) := by
  simp only [jwf, Bool.and_eq_true, List.all_eq_true] at h
  refine ⟨List.map_congr_left fun q hq => ?_, List.map_congr_left fun v hv => jwfv_eq (h.2 v hv) ha h9⟩
  obtain ⟨j, -, hj⟩ := (jlist_mem loc 0 q).mp hq
  have := h.1 _ (List.mem_of_getElem? hj)
  rw [jwfv_eq (n := n) (v := q.2) this ha h9]
theorem jgood_ws {k : Nat} (hk : jcw k ∈ jGW) : GoodIn jGW (jcw k :: jGW) := fun w hw => by
  rcases List.mem_cons.mp hw with rfl | hw
  · exact jGW_self _ hk
  · exact jGW_self _ hw
set_option maxHeartbeats 1000000 in
theorem J_core {l : Launch} {E : jEnv} {i pc k : Nat} {loc : List (Option Value)} {st as r : List Value} {h : List jC} {c s : Nat} {K : jK} {Q : jO → List jC → Prop}
    {p : Program} {e : Env} {S : State} {m : MethodId} {args : Array Value} {below : List Frame} {meth : Method} {cd : Code} (C : jCtx l E i p S m args meth cd)
    {al0 : Nat → Nat} {h0 : List jC} {al : Nat → Nat} {H : Heap} {locs : List Loc} {ls : Array Slot} (hE : jExt al0 h0 al h) (hH : jHeap E al h H) (hS : va_S (jA E) S.heap H locs) (hl : lv_has ls (jl i) (jlv al loc))
    (hi : i < 119) (hk : k < 119) (hw : jcw k ∈ jGW) (hwi : Cond.initialized (jn k).cls ∈ jGW) (hp : plainFor (jn k) = true)
    (hI : jInv p l e (jm i) S m args below meth cd H locs c s (F0 m pc ls (st.map (jt al))) (r.map (jt al)) (jn k) (as.map (jt al)).toArray)
    (hr : jrest r = true) (hf : jfit i k c s = true) (hlen : (jent as).length ≤ jl k) (hg : GO l E k 0 (jpad (jl k) (jent as)) [] h 0 0 (jback i pc (pc + 3) k loc r h c s K Q))
    (hK : ∀ nx loc st h c s, K nx loc st h c s → GO l E i nx loc st h c s Q) :
    W p l e (jm i) S m args below meth cd H locs c s (jMQ E Q i al0 h0 below args S) (F0 m pc ls (st.map (jt al))) := by
  obtain ⟨hx, hb, hml, hrt, hown, hts, htab, hlk, hini, hB, hst⟩ := id C
  simp only [jfit, Bool.and_eq_true, decide_eq_true_eq] at hf
  obtain ⟨⟨⟨f1, f2⟩, f3⟩, f4⟩ := hf
  have hws := pay_in hts (jgood_ws hw)
  have hA : ∀ q, q < H.size → jA E q → jA E q := fun _ _ h => h
  have hal : ∀ {al' : Nat → Nat} {h' : List jC} {H' : Heap}, jExt al h al' h' → jHeap E al' h' H' → (h'.length = h.length ∨ jwf h.length loc r = true) → jlv al' loc = jlv al loc ∧ r.map (jt al') = r.map (jt al) := by
    intro al' h' H' x1 x2 x3
    rcases x3 with x3 | x3
    · rw [x1.2.2 x3]; exact ⟨rfl, rfl⟩
    · exact jwf_eq x3 x1.2.1 (x2.2.2.trans hH.2.2.symm)
  refine jRun (maxL := jl k) hI (J_met hg hk hp hlen hst al) ?_ f1 f2 hws ?_ (hts _ hwi) rfl (hl.1.trans hml.symm) ?_ ⟨f3, f4⟩ ?_ ?_ ?_
  · intro a U g mk hq
    obtain ⟨q0, q1, q2⟩ := hq
    exact ⟨q0, jBase_moved (s := U) (State.WarmedH.refl U) (Nat.le_refl _) (fun _ _ _ => rfl) q1, q2⟩
  · intro U mk hW hn
    have hu := hws _ List.mem_cons_self #[] U hW
    unfold jcw at hu
    split at hu
    · obtain ⟨meth9, c9, h1, h2, -, h4, -⟩ := Cond.code_spec hn hu
      exact ⟨meth9, c9, h1, h2, h4⟩
    · obtain ⟨m9, meth9, c9, hn9, h1, h2, -, h4, -⟩ := Cond.codeWith_spec hu
      cases hn.symm.trans hn9
      exact ⟨meth9, c9, h1, h2, h4⟩
  · rw [jt_sum]
    exact lv_room (jrest_s hr)
  · intro U hU hW
    refine ⟨rfl, ?_, by rw [hU]; exact hH⟩
    rw [hU]
    exact jBase_moved hW hS.1 hS.2.1 hB
  · intro v st₀ t T' L h00 X' hL e1 e2 hq
    obtain ⟨v', al', h', ev, hq, x1, x2, hF⟩ := hq
    cases ev
    obtain ⟨hwf, hq⟩ := hq
    have x2' : jHeap E al' h' T'.heap := by rw [e1]; exact x2
    obtain ⟨a1, a2⟩ := hal x1 x2' hwf
    obtain ⟨-, -, k3⟩ := vx_keep h00 e1 hS hA (fun _ h => h) hL hF
    obtain ⟨t9, b1, b2⟩ := hK _ _ _ _ _ _ hq p e S m args below meth cd C al0 h0 al' T'.heap (locs ++ L) ls (jExt_tr hE x1) x2' k3 (by rw [a1]; exact hl) T' rfl X'
    refine ⟨t9, ?_, b2⟩
    have e9 : (v'.toList ++ r).map (jt al') = (v'.map (jt al')).toList ++ r.map (jt al) := by
      rw [List.map_append, a2]
      cases v' <;> rfl
    rw [e9] at b1
    exact b1
  · intro q st₀ t T' L X ce h00 X' hL e1 e2 hq hce hcv hcl
    obtain ⟨al', h', hXc, hq, x1, x2, hF⟩ := hq
    obtain ⟨hwf, hq⟩ := hq
    have x2' : jHeap E al' h' T'.heap := by rw [e1]; exact x2
    obtain ⟨a1, a2⟩ := hal x1 x2' hwf
    obtain ⟨-, -, k3⟩ := vx_keep h00 e1 hS hA (fun _ h => h) hL hF
    split at hq
    · rename_i q9 hq9
      obtain ⟨⟨ins, nx⟩, hz, hq⟩ := jso_s hq
      dsimp only at hq
      split at hq
      · rename_i j
        obtain ⟨hfr, hq⟩ := hq
        have hq9' : ((jHC.getD i []).find? (jhf pc X)).map (fun q => q.2.2.1) = some q9 := hq9
        cases hfi : (jHC.getD i []).find? (jhf pc X) with
        | none => rw [hfi] at hq9'; cases hq9'
        | some b =>
          have hb9 : b.2.2.1 = q9 := by rw [hfi] at hq9'; exact Option.some.inj hq9'
          obtain ⟨pre, x, suf, s1, s2, s3, s4, s5, s6⟩ := jhan_split (own := jcn (jo i)) (jh i) (jHC.getD i []) b (jHl i hi) (jHk i hi) hfi
          have G : W p l e (jm i) S m args below meth cd T'.heap (locs ++ L) (c + (jm k).cells) (s + (jm k).slots) (jMQ E Q i al0 h0 below args S) (F0 m x.handlerPc ls [.ref q]) := by
            rw [s2, hb9]
            cases hcc : jcode i q9 with
            | none => simp [jcd, hcc] at hz
            | some raw =>
              obtain ⟨raw, len⟩ := raw
              have hd := jdec hcc
              have ck := jchk_of hcc
              simp only [jcd, hcc, Option.map_some, Option.some.injEq, Prod.mk.injEq] at hz
              obtain ⟨hz1, hz2⟩ := hz
              subst hz2
              have fin : ∀ ls', lv_has ls' (jl i) (jlv al' (loc.set j none)) → W p l e (jm i) S m args below meth cd T'.heap (locs ++ L) (c + (jm k).cells) (s + (jm k).slots) (jMQ E Q i al0 h0 below args S) (F0 m (q9 + len) ls' []) := fun ls' hl' => hK _ _ _ _ _ _ hq p e S m args below meth cd C al0 h0 al' T'.heap (locs ++ L) ls' (jExt_tr hE x1) x2' k3 hl'
              have hl2 : lv_has ls (jl i) (jlv al' loc) := by rw [a1]; exact hl
              cases raw <;> simp only [jnorm, reduceCtorEq] at hz1
              · cases hz1
                simp only [jchk, Bool.and_eq_true, beq_iff_eq, decide_eq_true_eq] at ck; obtain ⟨ck, ck2⟩ := ck; subst ck
                exact lv_astore hx hb hd hl2 ck2 rfl (fun ls' hl' => fin ls' (jlv_drop hfr hl'))
              · cases hz1
                simp only [jchk, Bool.and_eq_true, beq_iff_eq, decide_eq_true_eq] at ck; obtain ⟨ck, ck2⟩ := ck; subst ck
                exact lv_astore_n hx hb hd rfl hl2 ck2 rfl (fun ls' hl' => fin ls' (jlv_drop hfr hl'))
          refine vx_catch (own := jcn (jo i)) (name := X) (E := X) (ce := ce) hown pre x suf (htab.trans s1) (fun z hz => ?_) s3 s4 (hts _ s5) (va_Nw.use rfl (hB.2.2.2.2.2.2.2.1 X hXc)) (by rw [e1]; exact hce) hcv hcl G T' rfl X'
          rcases s6 z hz with g1 | ⟨g1, nm, g2, g3, g4⟩
          · exact Or.inl g1
          · exact Or.inr ⟨g1, nm, hts _ g2, hB.2.2.2.2.1 (X, nm) (jcast_nc X hXc nm g3 g4)⟩
      · exact hq.elim
    · obtain ⟨hemp, hq⟩ := hq
      have hout : ∀ x ∈ cd.exceptionTable.toList, covers x pc = false := by
        intro x hx9
        rw [htab, List.isEmpty_iff.mp hemp] at hx9
        cases hx9
      obtain ⟨st1, hrun, hend, hW, hsm⟩ := X'.leaveThrown q (g := F0 m pc ls (r.map (jt al))) rfl rfl rfl hout hlk
      have hcell9 : (T'.setFrames (.throwing q :: below)).heap[q]? = some ce := by
        show T'.heap[q]? = some ce
        rw [e1]; exact hce
      refine ⟨_, st1, .threw q, hrun, hend, Or.inr ⟨q, rfl, X, ce, locs ++ L, ⟨al', h', hXc, hq, jExt_tr hE x1, x2', ?_⟩, hcell9, hcv, hcl, hW, hsm.mono f3 f4, k3.2.2⟩⟩
      exact k3.F rfl

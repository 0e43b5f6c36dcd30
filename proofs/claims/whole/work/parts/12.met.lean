/-! a walk of a method's body gives its contract -/
theorem jent_len : ∀ (al : Nat → Nat) (as : List Value), (lg_sl (as.map (jt al))).length = (jent as).length
  | al, [] => rfl
  | al, v :: r => by
    have ih := jent_len al r
    cases v <;> simp_all [lg_sl, jent, jt, Value.category]
theorem jent_mem : ∀ (al : Nat → Nat) (as : List Value) (n k : Nat) (v : Value), (k, v) ∈ jlist n (jent as) → (k, jt al v) ∈ lv_args n (as.map (jt al))
  | al, [], n, k, v, h => by simp [jent, jlist] at h
  | al, w :: r, n, k, v, h => by
    cases w with
    | long x =>
      simp only [jent, jlist, List.mem_cons] at h
      simp only [List.map_cons, lv_args, List.mem_cons]
      rcases h with h | h
      · left; cases h; rfl
      · right
        have := jent_mem al r (n + 1 + 1) k v h
        simpa [jt, Value.category] using this
    | int x =>
      simp only [jent, jlist, List.mem_cons] at h
      simp only [List.map_cons, lv_args, List.mem_cons]
      rcases h with h | h
      · left; cases h; rfl
      · right
        have := jent_mem al r (n + 1) k v h
        simpa [jt, Value.category] using this
    | ref x =>
      simp only [jent, jlist, List.mem_cons] at h
      simp only [List.map_cons, lv_args, List.mem_cons]
      rcases h with h | h
      · left; cases h; rfl
      · right
        have := jent_mem al r (n + 1) k v h
        simpa [jt, Value.category] using this
    | float x =>
      simp only [jent, jlist, List.mem_cons] at h
      simp only [List.map_cons, lv_args, List.mem_cons]
      rcases h with h | h
      · left; cases h; rfl
      · right
        have := jent_mem al r (n + 1) k v h
        simpa [jt, Value.category] using this
    | null =>
      simp only [jent, jlist, List.mem_cons] at h
      simp only [List.map_cons, lv_args, List.mem_cons]
      rcases h with h | h
      · left; cases h; rfl
      · right
        have := jent_mem al r (n + 1) k v h
        simpa [jt, Value.category] using this
    | retAddr x =>
      simp only [jent, jlist, List.mem_cons] at h
      simp only [List.map_cons, lv_args, List.mem_cons]
      rcases h with h | h
      · left; cases h; rfl
      · right
        have := jent_mem al r (n + 1) k v h
        simpa [jt, Value.category] using this
    | double x =>
      simp only [jent, jlist, List.mem_cons] at h
      simp only [List.map_cons, lv_args, List.mem_cons]
      rcases h with h | h
      · left; cases h; rfl
      · right
        have := jent_mem al r (n + 1 + 1) k v h
        simpa [jt, Value.category] using this
theorem jm_own : ∀ k, k < 119 → (jn k).cls = jcn (jo k) := by decide +kernel
theorem jlv_pad {al : Nat → Nat} {n : Nat} {as : List Value} {q : Nat × Value} (h : q ∈ jlv al (jpad n (jent as))) : q ∈ lv_args 0 (as.map (jt al)) := by
  obtain ⟨⟨k, v⟩, hm, rfl⟩ := List.mem_map.mp h
  refine jent_mem al as 0 k v ?_
  obtain ⟨j, h1, h2⟩ := (jlist_mem _ 0 (k, v)).mp hm
  refine (jlist_mem _ 0 (k, v)).mpr ⟨j, h1, ?_⟩
  unfold jpad at h2
  by_cases hj : j < (jent as).length
  · rwa [List.getElem?_append_left hj] at h2
  · rw [List.getElem?_append_right (by omega), List.getElem?_replicate] at h2
    split at h2 <;> cases h2
set_option maxHeartbeats 1000000 in
theorem J_met {l : Launch} {E : jEnv} {k : Nat} {as : List Value} {h : List jC} {Q : jO → List jC → Prop} (hg : GO l E k 0 (jpad (jl k) (jent as)) [] h 0 0 Q) (hk : k < 119) (hp : plainFor (jn k) = true) (hlen : (jent as).length ≤ jl k) (hst : l.stackTraces = false) (al : Nat → Nat) :
    jMet l (jn k) (jcw k :: jGW) (jm k) (va_Pc (as.map (jt al)) (fun U => jBase E U U.heap ∧ jHeap E al h U.heap)) (jQc E Q al h) (jXC E Q al h) (jrc k) (jrs k) (jA E) := by
  refine MetFree.of_bodySF (code := jb k) (maxLocals := jl k) (ret := jr k) hp ?_ ?_
  · intro args s m hpre hn
    have hw := atoms_spec (ws := jcw k :: jGW) hpre _ List.mem_cons_self
    unfold jcw at hw
    split at hw
    · obtain ⟨meth, c, h1, h2, h3, h4, h5, h6, -, -⟩ := Cond.code_spec hn hw
      exact ⟨meth, c, h1, h2, h3, h4, h5, h6⟩
    · obtain ⟨m9, meth, c, hn9, h1, h2, h3, h4, -, h5, h6, -⟩ := Cond.codeWith_spec hw
      cases hn.symm.trans hn9
      exact ⟨meth, c, h1, h2, h3, h4, h5, h6⟩
  · intro p e s m args below meth c s₁ B hml hP _
    obtain ⟨rfl, hB, hH⟩ := hP
    have hh0 : s₁.heap = s.heap := by rw [B.state]; rfl
    have hts0 := atoms_spec (ws := jcw k :: jGW) B.pre
    have htab : c.exceptionTable.toList = tableOf (jh k) := by
      have hw := hts0 _ List.mem_cons_self
      unfold jcw at hw
      split at hw
      · rename_i he
        obtain ⟨meth9, c9, h1, h2, -, -, -, -, h7, -⟩ := Cond.code_spec B.named hw
        cases Option.some.inj (h1.symm.trans B.method)
        cases Option.some.inj (h2.symm.trans (Stand.of_body B).code)
        rw [Array.isEmpty_iff.mp h7, List.isEmpty_iff.mp he]
        rfl
      · exact vx_table (x := jn k) B hw
    have C : jCtx l E k p s m (as.map (jt al)).toArray meth c := ⟨B.exec, B.bytes, hml, B.returns, by rw [← jm_own k hk]; exact findClass_of_methodNamed B.named, fun w hw => hts0 w (List.mem_cons_of_mem _ hw), htab, B.notSynchronized, fun hi => (name_of_methodNamed B.named B.method).1.trans hi, hB, hst⟩
    have hl := lv_entry (as.map (jt al)) (n := jl k) (by rw [jent_len]; exact hlen)
    have hl2 : lv_has _ (jl k) (jlv al (jpad (jl k) (jent as))) := ⟨hl.1, hl.2.1, fun q hq => hl.2.2 q (jlv_pad hq)⟩
    have K := hg p e s m (as.map (jt al)).toArray below meth c C al h al s.heap [] _ jExt_rf hH va_S.rf hl2
    obtain ⟨t, a1, o, b1, b2, b3⟩ := K s₁ hh0 (Stand.of_body B)
    refine ⟨t, o, ?_, b1, b2, b3⟩
    rw [lg_entry_eq]
    exact a1

theorem jC_k : ∀ q ∈ jCL, q.2.2 < 119 ∧ (q.2.1 = 0 → jo q.2.2 < 5) := by decide +kernel
theorem jcw_code {k : Nat} (h : (jh k).isEmpty = true) : jcw k = .code (jn k) (jb k) (jl k) (jr k) := by unfold jcw; rw [if_pos h]
theorem jcw_with {k : Nat} (h : (jh k).isEmpty = false) : jcw k = .codeWith (jn k) (jb k) (jl k) (jr k) (jh k) := by unfold jcw; rw [if_neg (by rw [h]; decide)]
theorem jlen_of {k n : Nat} (hd : (parseMethodDescriptor (jn k).desc).map (fun d => d.parameters.length) = some (jp k)) (hn : n = jp k) : ∀ sig, parseMethodDescriptor (jn k).desc = some sig → n = sig.parameters.length := by
  intro sig h
  rw [h] at hd
  exact hn.trans (Option.some.inj hd).symm
set_option maxHeartbeats 1000000 in
theorem J_virt {l : Launch} {E : jEnv} {i pc x : Nat} {loc : List (Option Value)} {st : List Value} {h : List jC} {c s : Nat} {K : jK} {Q : jO → List jC → Prop}
    (hc : jcode i pc = some (.invokevirtual x, 3)) (hj : jcall l E i pc x (pc + 3) loc st h c s K Q [0]) (hK : ∀ nx loc st h c s, K nx loc st h c s → GO l E i nx loc st h c s Q) : GO l E i pc loc st h c s Q := by
  intro p e S m args below meth cd C al0 h0 al H locs ls hE hH hS hl
  obtain ⟨hx, hb, hml, hrt, hown, hts, htab, hlk, hini, hB, hst⟩ := id C
  have hd := jdec hc
  obtain ⟨⟨kind, k⟩, hq, hkin, hj⟩ := jso_s hj
  obtain ⟨⟨as, r⟩, ht, hr, hf, hlen, hv, -, hg⟩ := jso_s hj
  have mem := jcal_ok hq
  have hk0 : kind = 0 := by simpa using hkin
  subst hk0
  obtain ⟨d1, d2, d3, d4⟩ := jC_p _ mem
  obtain ⟨k1, k2⟩ := jC_k _ mem
  have wd := jC_all _ mem
  simp only [jCws] at wd
  dsimp only at d1 d2 d3 d4 k1 k2 hr hf hlen hv hg
  obtain ⟨bs, e1, e2, e3⟩ := jtake_s _ _ _ _ _ ht
  rw [List.append_nil] at e3
  subst e3
  have hemp : (jh k).isEmpty = true := by
    rcases jC_h _ mem with ⟨q, -⟩ | ⟨-, -, q⟩
    · cases q
    · exact q
  obtain ⟨v0, hv0, hv9⟩ := jso_s (hv rfl)
  cases as with
  | nil => cases hv0
  | cons w ps =>
    cases hv0
    split at hv9
    · rename_i b
      obtain ⟨fs, ho, -⟩ := job_s hv9
      have hcl := k2 rfl
      have hcl2 : jCl[jo k]? = some (jCl[jo k]'(by simpa using hcl)) := List.getElem?_eq_getElem _
      obtain ⟨cell, g1, g2, g3⟩ := va_recv hB.1 hH.1 hcl2 (jW_at ho)
      rw [(jcl_facts hcl2).2.2.2.2.2, ← jm_own k k1] at g3
      have w1 : Cond.methodLink (jcn (jo i)) x (jn k) ∈ jGW := wd _ List.mem_cons_self
      have w2 : Cond.instanceMethod (jn k) ∈ jGW := wd _ (List.mem_cons_of_mem _ List.mem_cons_self)
      have w3 : Cond.selects (jn k).cls (jn k) (jn k) ∈ jGW := wd _ (List.mem_cons_of_mem _ (List.mem_cons_of_mem _ List.mem_cons_self))
      have w4 : Cond.initialized (jn k).cls ∈ jGW := wd _ (List.mem_cons_of_mem _ (List.mem_cons_of_mem _ (List.mem_cons_of_mem _ List.mem_cons_self)))
      have w5 : jcw k ∈ jGW := wd _ (List.mem_cons_of_mem _ (List.mem_cons_of_mem _ (List.mem_cons_of_mem _ (List.mem_cons_of_mem _ List.mem_cons_self))))
      have hcode : (Cond.code (jn k) (jb k) (jl k) (jr k)).before args S = true := by
        rw [← jcw_code hemp]; exact hts _ w5
      refine J_core (as := .ref b :: ps) (st := st) (r := r) C hE hH hS hl (jlt hc) k1 w5 w4 d4 ?_ hr hf hlen hg hK
      have hps : ps.length = jp k := by simp at e1; exact e1
      have := jInvV (p := p) (l := l) (e := e) (R := jm i) (below := below) (meth := meth) (locs := locs) (cells := c) (slots := s) (H := H) (C := (jn k).cls) (y := jn k) (b := al b) (g := F0 m pc ls (st.map (jt al))) (argsL := ps.map (jt al)) (rest := r.map (jt al)) hx hown (hts _ w1) (hts _ w2) (hts _ w3) hcode ⟨d2, d3⟩ g1 g2 g3 rfl
        (jlen_of d1 (by rw [List.length_map]; exact hps)) (by rw [e2]; simp [jt]) (by rw [hb]; exact hd)
      exact this
    · exact hv9.elim
set_option maxHeartbeats 1000000 in
theorem J_stat {l : Launch} {E : jEnv} {i pc x : Nat} {loc : List (Option Value)} {st : List Value} {h : List jC} {c s : Nat} {K : jK} {Q : jO → List jC → Prop}
    (hc : jcode i pc = some (.invokestatic x, 3)) (hj : jcall l E i pc x (pc + 3) loc st h c s K Q [1, 4, 6]) (hK : ∀ nx loc st h c s, K nx loc st h c s → GO l E i nx loc st h c s Q) : GO l E i pc loc st h c s Q := by
  intro p e S m args below meth cd C al0 h0 al H locs ls hE hH hS hl
  obtain ⟨hx, hb, hml, hrt, hown, hts, htab, hlk, hini, hB, hst⟩ := id C
  have hd := jdec hc
  obtain ⟨⟨kind, k⟩, hq, hkin, hj⟩ := jso_s hj
  obtain ⟨⟨as, r⟩, ht, hr, hf, hlen, -, -, hg⟩ := jso_s hj
  have mem := jcal_ok hq
  obtain ⟨d1, d2, d3, d4⟩ := jC_p _ mem
  obtain ⟨k1, k2⟩ := jC_k _ mem
  have wd := jC_all _ mem
  have hh := jC_h _ mem
  have hn := jC_n _ mem
  dsimp only at d1 d2 d3 d4 k1 k2 hr hf hlen hg hh hn ht
  have hkin : kind = 1 ∨ kind = 4 ∨ kind = 6 := by simpa using hkin
  have hn0 : jp k + (if kind = 1 ∨ kind = 4 ∨ kind = 6 then 0 else 1) = jp k := by rw [if_pos hkin]; rfl
  rw [hn0] at ht
  obtain ⟨bs, e1, e2, e3⟩ := jtake_s _ _ _ _ _ ht
  rw [List.append_nil] at e3
  subst e3
  have hla := jlen_of d1 (show (as.map (jt al)).length = jp k by rw [List.length_map]; exact e1)
  have hstk : (F0 m pc ls (st.map (jt al))).stack = (as.map (jt al)).reverse ++ r.map (jt al) := by
    show st.map (jt al) = _
    rw [e2]; simp
  have hdg : decode cd.code (F0 m pc ls (st.map (jt al))).pc = .ok (.invokestatic x, 3) := by rw [hb]; exact hd
  rcases hkin with rfl | rfl | rfl
  · simp only [jCws] at wd
    have w1 : Cond.methodLink (jcn (jo i)) x (jn k) ∈ jGW := wd _ List.mem_cons_self
    have w2 : Cond.static (jn k) ∈ jGW := wd _ (List.mem_cons_of_mem _ List.mem_cons_self)
    have w3 : Cond.initialized (jn k).cls ∈ jGW := wd _ (List.mem_cons_of_mem _ (List.mem_cons_of_mem _ List.mem_cons_self))
    have w4 : jcw k ∈ jGW := wd _ (List.mem_cons_of_mem _ (List.mem_cons_of_mem _ (List.mem_cons_of_mem _ List.mem_cons_self)))
    have hemp : (jh k).isEmpty = true := by
      rcases hh with ⟨q, -⟩ | ⟨-, -, q⟩
      · cases q
      · exact q
    have hcode : (Cond.code (jn k) (jb k) (jl k) (jr k)).before args S = true := by
      rw [← jcw_code hemp]; exact hts _ w4
    exact J_core (as := as) (st := st) (r := r) C hE hH hS hl (jlt hc) k1 w4 w3 d4 (jInvS hx hown (hts _ w1) (hts _ w2) (hts _ w3) hcode ⟨d2, d3⟩ rfl hla hstk hdg) hr hf hlen hg hK
  · simp only [jCws] at wd
    have w2 : Cond.static (jn k) ∈ jGW := wd _ List.mem_cons_self
    have w3 : Cond.initialized (jn k).cls ∈ jGW := wd _ (List.mem_cons_of_mem _ List.mem_cons_self)
    have w4 : jcw k ∈ jGW := wd _ (List.mem_cons_of_mem _ (List.mem_cons_of_mem _ List.mem_cons_self))
    have hemp : (jh k).isEmpty = true := by
      rcases hh with ⟨q, -⟩ | ⟨-, -, q⟩
      · cases q
      · exact q
    have hcode : (Cond.code (jn k) (jb k) (jl k) (jr k)).before args S = true := by
      rw [← jcw_code hemp]; exact hts _ w4
    exact J_core (as := as) (st := st) (r := r) C hE hH hS hl (jlt hc) k1 w4 w3 d4 (jInvSN hx hown (va_Nw.use rfl (hB.2.2.2.2.2.1 _ (hn (Or.inl rfl)))) (hts _ w2) (hts _ w3) hcode ⟨d2, d3⟩ rfl hla hstk hdg) hr hf hlen hg hK
  · simp only [jCws] at wd
    have w1 : Cond.methodLink (jcn (jo i)) x (jn k) ∈ jGW := wd _ List.mem_cons_self
    have w2 : Cond.static (jn k) ∈ jGW := wd _ (List.mem_cons_of_mem _ List.mem_cons_self)
    have w3 : Cond.initialized (jn k).cls ∈ jGW := wd _ (List.mem_cons_of_mem _ (List.mem_cons_of_mem _ List.mem_cons_self))
    have w4 : jcw k ∈ jGW := wd _ (List.mem_cons_of_mem _ (List.mem_cons_of_mem _ (List.mem_cons_of_mem _ List.mem_cons_self)))
    have hemp : (jh k).isEmpty = false := by
      rcases hh with ⟨-, q⟩ | ⟨q, -, -⟩
      · exact q
      · exact absurd q (by decide)
    have hcode : (Cond.codeWith (jn k) (jb k) (jl k) (jr k) (jh k)).before args S = true := by
      rw [← jcw_with hemp]; exact hts _ w4
    exact J_core (as := as) (st := st) (r := r) C hE hH hS hl (jlt hc) k1 w4 w3 d4 (jInvSX hx hown (hts _ w1) (hts _ w2) (hts _ w3) hcode ⟨d2, d3⟩ rfl hla hstk hdg) hr hf hlen hg hK
set_option maxHeartbeats 1000000 in
theorem J_spec {l : Launch} {E : jEnv} {i pc x : Nat} {loc : List (Option Value)} {st : List Value} {h : List jC} {c s : Nat} {K : jK} {Q : jO → List jC → Prop}
    (hc : jcode i pc = some (.invokespecial x, 3)) (hj : jcall l E i pc x (pc + 3) loc st h c s K Q [2, 5]) (hK : ∀ nx loc st h c s, K nx loc st h c s → GO l E i nx loc st h c s Q) : GO l E i pc loc st h c s Q := by
  intro p e S m args below meth cd C al0 h0 al H locs ls hE hH hS hl
  obtain ⟨hx, hb, hml, hrt, hown, hts, htab, hlk, hini, hB, hst⟩ := id C
  have hd := jdec hc
  obtain ⟨⟨kind, k⟩, hq, hkin, hj⟩ := jso_s hj
  obtain ⟨⟨as, r⟩, ht, hr, hf, hlen, -, hv, hg⟩ := jso_s hj
  have mem := jcal_ok hq
  obtain ⟨d1, d2, d3, d4⟩ := jC_p _ mem
  obtain ⟨k1, k2⟩ := jC_k _ mem
  have wd := jC_all _ mem
  have hh := jC_h _ mem
  have hn := jC_n _ mem
  have hi9 := jC_i _ mem
  dsimp only at d1 d2 d3 d4 k1 k2 hr hf hlen hg hh hn hi9 ht hv
  have hkin : kind = 2 ∨ kind = 5 := by simpa using hkin
  obtain ⟨hnm, hret⟩ := hi9 hkin
  have hn0 : jp k + (if kind = 1 ∨ kind = 4 ∨ kind = 6 then 0 else 1) = jp k + 1 := by
    rw [if_neg]
    rcases hkin with rfl | rfl <;> decide
  rw [hn0] at ht
  obtain ⟨bs, e1, e2, e3⟩ := jtake_s _ _ _ _ _ ht
  rw [List.append_nil] at e3
  subst e3
  obtain ⟨v0, hv0, hv9⟩ := jso_s (hv hkin)
  cases as with
  | nil => cases hv0
  | cons w ps =>
    cases hv0
    split at hv9
    · rename_i b
      have hps : ps.length = jp k := by simp at e1; exact e1
      have hla := jlen_of d1 (show (ps.map (jt al)).length = jp k by rw [List.length_map]; exact hps)
      have hstk : (F0 m pc ls (st.map (jt al))).stack = (ps.map (jt al)).reverse ++ .ref (al b) :: r.map (jt al) := by
        show st.map (jt al) = _
        rw [e2]; simp [jt]
      have hdg : decode cd.code (F0 m pc ls (st.map (jt al))).pc = .ok (.invokespecial x, 3) := by rw [hb]; exact hd
      rcases hkin with rfl | rfl
      · simp only [jCws] at wd
        have w1 : Cond.methodLink (jcn (jo i)) x (jn k) ∈ jGW := wd _ List.mem_cons_self
        have w2 : Cond.instanceMethod (jn k) ∈ jGW := wd _ (List.mem_cons_of_mem _ List.mem_cons_self)
        have w3 : Cond.initialized (jn k).cls ∈ jGW := wd _ (List.mem_cons_of_mem _ (List.mem_cons_of_mem _ List.mem_cons_self))
        have w4 : jcw k ∈ jGW := wd _ (List.mem_cons_of_mem _ (List.mem_cons_of_mem _ (List.mem_cons_of_mem _ List.mem_cons_self)))
        have hemp : (jh k).isEmpty = true := by
          rcases hh with ⟨q, -⟩ | ⟨-, -, q⟩
          · cases q
          · exact q
        have hcode : (Cond.code (jn k) (jb k) (jl k) none).before args S = true := by
          rw [← hret, ← jcw_code hemp]; exact hts _ w4
        have hI := jInvI hx hown hnm (hts _ w1) (hts _ w2) hcode ⟨d2, d3⟩ rfl hla hstk hdg (p := p) (l := l) (e := e) (R := jm i) (below := below) (meth := meth) (locs := locs) (cells := c) (slots := s) (H := H)
        exact J_core (as := .ref b :: ps) (st := st) (r := r) C hE hH hS hl (jlt hc) k1 w4 w3 d4 hI hr hf hlen hg hK
      · simp only [jCws] at wd
        have w2 : Cond.instanceMethod (jn k) ∈ jGW := wd _ List.mem_cons_self
        have w3 : Cond.initialized (jn k).cls ∈ jGW := wd _ (List.mem_cons_of_mem _ List.mem_cons_self)
        have w4 : jcw k ∈ jGW := wd _ (List.mem_cons_of_mem _ (List.mem_cons_of_mem _ List.mem_cons_self))
        have hemp : (jh k).isEmpty = true := by
          rcases hh with ⟨q, -⟩ | ⟨-, -, q⟩
          · cases q
          · exact q
        have hcode : (Cond.code (jn k) (jb k) (jl k) none).before args S = true := by
          rw [← hret, ← jcw_code hemp]; exact hts _ w4
        have hI := jInvIN hx hown hnm (va_Nw.use rfl (hB.2.2.2.2.2.1 _ (hn (Or.inr rfl)))) (hts _ w2) hcode ⟨d2, d3⟩ rfl hla hstk hdg (p := p) (l := l) (e := e) (R := jm i) (below := below) (meth := meth) (locs := locs) (cells := c) (slots := s) (H := H)
        exact J_core (as := .ref b :: ps) (st := st) (r := r) C hE hH hS hl (jlt hc) k1 w4 w3 d4 hI hr hf hlen hg hK
    · exact hv9.elim

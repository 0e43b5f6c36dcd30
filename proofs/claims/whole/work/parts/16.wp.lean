/-- one step, and then K -/
def jstep (l : Launch) (E : jEnv) (i pc : Nat) (loc : List (Option Value)) (st : List Value) (h : List jC) (c s : Nat) (K : jK) (Q : jO → List jC → Prop) : Prop := jso (jcd i pc) fun z => jop l E i pc z.1 z.2 loc st h c s K Q
theorem J_step {l : Launch} {E : jEnv} {i pc : Nat} {loc : List (Option Value)} {st : List Value} {h : List jC} {c s : Nat} {K : jK} {Q : jO → List jC → Prop} (hj : jstep l E i pc loc st h c s K Q) (hK : ∀ nx loc st h c s, K nx loc st h c s → GO l E i nx loc st h c s Q) : GO l E i pc loc st h c s Q := by
  obtain ⟨z, hz, hj⟩ := jso_s hj
  cases hc : jcode i pc with
  | none => simp [jcd, hc] at hz
  | some r =>
    obtain ⟨raw, len⟩ := r
    simp only [jcd, hc, Option.map_some, Option.some.injEq] at hz
    subst hz
    dsimp only at hj
    have ck := jchk_of hc
    cases raw with
    | invokevirtual x =>
      simp only [jchk, beq_iff_eq] at ck; subst ck
      exact J_virt hc hj hK
    | invokestatic x =>
      simp only [jchk, beq_iff_eq] at ck; subst ck
      exact J_stat hc hj hK
    | invokespecial x =>
      simp only [jchk, beq_iff_eq] at ck; subst ck
      simp only [jnorm, jop] at hj
      split at hj
      · rename_i ho
        obtain ⟨a, r, rfl, h1, h2, h3, hj⟩ := j1r_s hj
        exact J_obj hc ho h1 h2 h3 hj hK
      · exact J_spec hc hj hK
    | new x =>
      simp only [jchk, beq_iff_eq] at ck; subst ck
      simp only [jnorm, jop] at hj
      split at hj
      · rename_i q hq
        obtain ⟨h1, h2, h3, h4, h5, hQ⟩ := hj
        exact J_throw hq h1 h2 h3 h4 h5 hQ
      · obtain ⟨k, hk, h1, h2, h3, h4, h5, hj⟩ := jso_s hj
        exact J_new hc hk h1 h2 h3 h4 h5 hj hK
    | newarray t =>
      simp only [jchk, beq_iff_eq] at ck; subst ck
      simp only [jnorm, jop] at hj
      obtain ⟨n, r, rfl, h1, h2, h3, h4, h5, h6, h7, hj⟩ := j1i_s hj
      cases t <;> dsimp only at hj
      case int => exact J_newa (t := 0) (ty := .int) (cc := .inl fun _ => 0) hc rfl rfl (Or.inl rfl) (jgood_spec jarr_ok.1) (fun _ => rfl) h1 h2 h3 h4 h5 h6 h7 hj hK
      case boolean => exact J_newa (t := 1) (ty := .boolean) (cc := .inl fun _ => 0) hc rfl rfl (Or.inr (Or.inl rfl)) (jgood_spec jarr_ok.2.1) (fun _ => rfl) h1 h2 h3 h4 h5 h6 h7 hj hK
      case long => exact J_newa (t := 2) (ty := .long) (cc := .inr fun _ => 0) hc rfl rfl (Or.inr (Or.inr rfl)) (jgood_spec jarr_ok.2.2) (fun _ => rfl) h1 h2 h3 h4 h5 h6 h7 hj hK
      all_goals exact hj.elim
    | _ => exact J_simple hc hj hK trivial
def jmem : List Nat → Nat → Bool
  | [], _ => false
  | a :: r, x => Nat.beq a x || jmem r x
/-- n steps, but not on from the places S -/
def jwp (l : Launch) (E : jEnv) (i : Nat) (S : List Nat) (Q : jO → List jC → Prop) : Nat → jK
  | 0 => fun pc loc st h c s => GO l E i pc loc st h c s Q
  | n + 1 => fun pc loc st h c s => match jmem S pc with
    | true => GO l E i pc loc st h c s Q
    | false => jstep l E i pc loc st h c s (jwp l E i S Q n) Q
theorem jwp_go {l : Launch} {E : jEnv} {i : Nat} {S : List Nat} {Q : jO → List jC → Prop} : ∀ (n : Nat) (pc : Nat) (loc : List (Option Value)) (st : List Value) (h : List jC) (c s : Nat), jwp l E i S Q n pc loc st h c s → GO l E i pc loc st h c s Q
  | 0, _, _, _, _, _, _, hj => hj
  | n + 1, pc, loc, st, h, c, s, hj => by
    unfold jwp at hj
    split at hj
    · exact hj
    · exact J_step hj (jwp_go n)
theorem J_wp {l : Launch} {E : jEnv} {i pc : Nat} {loc : List (Option Value)} {st : List Value} {h : List jC} {c s : Nat} {Q : jO → List jC → Prop} (S : List Nat) (n : Nat) (hj : jstep l E i pc loc st h c s (jwp l E i S Q n) Q) : GO l E i pc loc st h c s Q := J_step hj (jwp_go n)
theorem GO_imp {l : Launch} {E : jEnv} {i pc : Nat} {loc : List (Option Value)} {st : List Value} {h : List jC} {c s : Nat} {Q Q' : jO → List jC → Prop} (hq : ∀ o h', Q o h' → Q' o h') (hg : GO l E i pc loc st h c s Q) : GO l E i pc loc st h c s Q' := by
  intro p e S m args below meth cd C al0 h0 al H locs ls hE hH hS hl T hT X
  obtain ⟨t, a1, o, b1, b2, b3⟩ := hg p e S m args below meth cd C al0 h0 al H locs ls hE hH hS hl T hT X
  refine ⟨t, a1, o, b1, b2, ?_⟩
  rcases b3 with ⟨⟨v, al', h', e1, e2, e3⟩, b4⟩ | ⟨q, e1, X, ce, L, ⟨al', h', e2, e3, e4⟩, b4⟩
  · exact Or.inl ⟨⟨v, al', h', e1, hq _ _ e2, e3⟩, b4⟩
  · exact Or.inr ⟨q, e1, X, ce, L, ⟨al', h', e2, hq _ _ e3, e4⟩, b4⟩
/-- fewer known locals -/
theorem GO_loc {l : Launch} {E : jEnv} {i pc : Nat} {loc loc' : List (Option Value)} {st : List Value} {h : List jC} {c s : Nat} {Q : jO → List jC → Prop} (hle : ∀ (k : Nat) (v : Value), loc'[k]? = some (some v) → loc[k]? = some (some v)) (hg : GO l E i pc loc' st h c s Q) : GO l E i pc loc st h c s Q := by
  intro p e S m args below meth cd C al0 h0 al H locs ls hE hH hS hl
  refine hg p e S m args below meth cd C al0 h0 al H locs ls hE hH hS ⟨hl.1, hl.2.1, fun q hq => hl.2.2 q ?_⟩
  obtain ⟨⟨k, v⟩, hm, rfl⟩ := List.mem_map.mp hq
  obtain ⟨j, h1, h2⟩ := (jlist_mem _ 0 (k, v)).mp hm
  exact List.mem_map.mpr ⟨(k, v), (jlist_mem _ 0 (k, v)).mpr ⟨j, h1, hle _ _ h2⟩, rfl⟩

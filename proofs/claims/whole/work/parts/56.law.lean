theorem law_nx {l : Launch} {E : jEnv} {A : Nat → Nat → Int32} {V : Nat → Int32} {O : Nat → Int64} {Q : jO → List jC → Prop} {i c s : Nat} (h : GO l E 118 23 [some (.ref 9999), some (.ref 0), some (.ref 25), some (.ref 45), some (.int (nI (i + 5))), none, none] [] (hp A V O) c s Q) : GO l E 118 1303 [some (.ref 9999), some (.ref 0), some (.ref 25), some (.ref 45), some (.int (nI i)), none, none] [] (hp A V O) c s Q := by
  refine R_iinc z118_1303 (v := 5) (loc' := [some (.ref 9999), some (.ref 0), some (.ref 25), some (.ref 45), some (.int (nI (i + 5))), none, none]) rfl rfl (by decide) (by rw [show nI i + 5 = nI (i + 5) from nI_add i 5]; rfl) ?_
  exact R_goto z118_1306 (tn := 23) rfl h
theorem law_in {E : jEnv} {i k : Nat} (hE : E.2.2.2.2.2.1 ≤ 2560) (h : i + k < E.2.2.2.2.2.1) : vp_in (nI (i + k)) E.2.2.2.2.2.1 := nin h (by omega)
theorem law_lp {l : Launch} {E : jEnv} {Q : jO → List jC → Prop} (hE : E.2.2.2.2.2.1 ≤ 2560) (hQ : ∀ h, Q (.inl (some (.int 1))) h) : ∀ (d i c s : Nat) (A : Nat → Nat → Int32) (V : Nat → Int32) (O : Nat → Int64) (n r D m : Nat), E.2.2.2.2.2.1 ≤ i + 5 * d + 4 → i ≤ 2564 → c + d ≤ 1080 → s + 6 * d ≤ 28500 → Rel A V n r D m → GO l E 118 23 [some (.ref 9999), some (.ref 0), some (.ref 25), some (.ref 45), some (.int (nI i)), none, none] [] (hp A V O) c s Q := by
  intro d
  induction d with
  | zero =>
    intro i c s A V O n r D m hi hi2 hc hs h
    refine R_iload z118_23 rfl ?_
    refine R_aload z118_25 rfl ?_
    refine R_slen z118_26 ?_
    refine R_iconst z118_27 (v := 5) (by decide) ?_
    refine R_isub z118_28 ?_
    refine R_icmp z118_29 (tn := 1309) rfl (fun _ => ?_) (fun q => absurd ?_ q)
    · refine R_iconst z118_1309 (v := 1) (by decide) ?_
      exact R_iret z118_1310 (Or.inr (by decide)) ⟨show c ≤ 1086 by omega, show s ≤ 28528 by omega⟩ (hQ _)
    · show nI E.2.2.2.2.2.1 - nI 5 < nI i
      rw [Int32.lt_iff_toInt_lt, pk_sub_toInt (by omega) (by omega), nI_toInt (by omega)]
      omega
  | succ d ih =>
    intro i c s A V O n r D m hi hi2 hc hs h
    refine R_iload z118_23 rfl ?_
    refine R_aload z118_25 rfl ?_
    refine R_slen z118_26 ?_
    refine R_iconst z118_27 (v := 5) (by decide) ?_
    refine R_isub z118_28 ?_
    refine R_icmp z118_29 (tn := 1309) rfl (fun _ => ?_) (fun q => ?_)
    · refine R_iconst z118_1309 (v := 1) (by decide) ?_
      exact R_iret z118_1310 (Or.inr (by decide)) ⟨show c ≤ 1086 by omega, show s ≤ 28528 by omega⟩ (hQ _)
    have q2 : ¬ nI E.2.2.2.2.2.1 - nI 5 < nI i := q
    rw [Int32.lt_iff_toInt_lt, pk_sub_toInt (by omega) (by omega), nI_toInt (by omega)] at q2
    have hl : i + 5 ≤ E.2.2.2.2.2.1 := by omega
    have hS : sIn E (nI i) := by
      refine ⟨?_, ?_, ?_, ?_⟩
      · rw [show nI i + 1 = nI (i + 1) from nI_add i 1]; exact law_in hE (by omega)
      · rw [show nI i + 2 = nI (i + 2) from nI_add i 2]; exact law_in hE (by omega)
      · rw [show nI i + 3 = nI (i + 3) from nI_add i 3]; exact law_in hE (by omega)
      · rw [show nI i + 4 = nI (i + 4) from nI_add i 4]; exact law_in hE (by omega)
    have hN : ∀ (A : Nat → Nat → Int32) (V : Nat → Int32) (O : Nat → Int64) (n r D m : Nat), Rel A V n r D m → GO l E 118 1303 [some (.ref 9999), some (.ref 0), some (.ref 25), some (.ref 45), some (.int (nI i)), none, none] [] (hp A V O) (c + 1) (s + 6) Q := fun A V O n r D m hR => law_nx (ih (i + 5) (c + 1) (s + 6) A V O n r D m (by omega) (by omega) (by omega) (by omega) hR)
    refine R_aload z118_32 rfl ?_
    refine R_iload z118_33 rfl ?_
    refine R_sld z118_35 (law_in (k := 0) hE (by omega)) ?_
    refine R_bipush z118_36 (v := 31) (by decide) ?_
    refine R_iand z118_38 ?_
    refine R_tsw z118_39 (fun k t hk e => ?_) (fun _ => law_nx (ih (i + 5) c s A V O n r D m (by omega) (by omega) (by omega) (by omega) h))
    match k, hk, e with
    | 0, hk, _ =>
      have et : t = 124 := (Option.some.inj hk).symm
      subst et
      exact w100 hS (by omega) (by omega) (p100 h) hN
    | 1, hk, _ =>
      have et : t = 204 := (Option.some.inj hk).symm
      subst et
      exact w101 hS (by omega) (by omega) (p101 h) hN
    | 2, hk, _ =>
      have et : t = 252 := (Option.some.inj hk).symm
      subst et
      exact w102 hS (by omega) (by omega) (p102 h) hN
    | 3, hk, _ =>
      have et : t = 288 := (Option.some.inj hk).symm
      subst et
      exact w103 hS (by omega) (by omega) (p103 h) hN
    | 4, hk, _ =>
      have et : t = 324 := (Option.some.inj hk).symm
      subst et
      exact w104 hS (by omega) (by omega) (p104 h) hN
    | 5, hk, _ =>
      have et : t = 372 := (Option.some.inj hk).symm
      subst et
      exact w105 hS (by omega) (by omega) (p105 h) hN
    | 6, hk, _ =>
      have et : t = 452 := (Option.some.inj hk).symm
      subst et
      exact w106 hS (by omega) (by omega) (p106 h) hN
    | 7, hk, _ =>
      have et : t = 520 := (Option.some.inj hk).symm
      subst et
      by_cases h3 : E.2.2.2.2.2.2 (nI i + 3).toNatClampNeg = 0
      · exact w107_0 hS (by omega) (by omega) h3 (p107_0 h) hN
      · exact w107_1 hS (by omega) (by omega) h3 (p107_1 h) hN
    | 8, hk, _ =>
      have et : t = 596 := (Option.some.inj hk).symm
      subst et
      exact w108 hS (by omega) (by omega) (p108 h) hN
    | 9, hk, _ =>
      have et : t = 664 := (Option.some.inj hk).symm
      subst et
      exact w109 hS (by omega) (by omega) (p109 h) hN
    | 10, hk, _ =>
      have et : t = 751 := (Option.some.inj hk).symm
      subst et
      exact w110 hS (by omega) (by omega) (p110 h) hN
    | 11, hk, _ =>
      have et : t = 819 := (Option.some.inj hk).symm
      subst et
      exact w111 hS (by omega) (by omega) (p111 h) hN
    | 12, hk, _ =>
      have et : t = 887 := (Option.some.inj hk).symm
      subst et
      exact w112 hS (by omega) (by omega) (p112 h) hN
    | 13, hk, _ =>
      have et : t = 955 := (Option.some.inj hk).symm
      subst et
      exact w113 hS (by omega) (by omega) (p113 h) hN
    | 14, hk, _ =>
      have et : t = 1011 := (Option.some.inj hk).symm
      subst et
      exact w114 hS (by omega) (by omega) (p114 h) hN
    | 15, hk, _ =>
      have et : t = 1123 := (Option.some.inj hk).symm
      subst et
      exact w115 hS (by omega) (by omega) (p115 h) hN
    | 16, hk, _ =>
      have et : t = 1179 := (Option.some.inj hk).symm
      subst et
      exact w116 hS (by omega) (by omega) (p116 h) hN
    | 17, hk, _ =>
      have et : t = 1247 := (Option.some.inj hk).symm
      subst et
      exact w117 hS (by omega) (by omega) (p117 h) hN
    | k + 18, hk, _ => exact absurd hk (by simp)
/-- the law comes to its end and returns true -/
theorem law_go {l : Launch} {E : jEnv} {Q : jO → List jC → Prop} (hE : E.2.2.2.2.2.1 ≤ 2560) (hQ : ∀ h, Q (.inl (some (.int 1))) h) : GO l E 118 0 [some (.ref 9999), none, none, none, none, none, none] [] [] 0 0 Q :=
  k118 (fun _ hf => law_lp hE hQ 512 0 46 20240 _ _ _ 0 0 0 0 (by omega) (by omega) (by omega) (by omega) (Rel.init hf))

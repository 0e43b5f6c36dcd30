theorem R_top {l : Launch} {E : jEnv} {i pc : Nat} {loc : List (Option Value)} {st : List Value} {h : List jC} {c s : Nat} {Q : jO → List jC → Prop} {x y : Int32} (e : x = y) (kk : GO l E i pc loc (.int y :: st) h c s Q) : GO l E i pc loc (.int x :: st) h c s Q := by rw [e]; exact kk
theorem npair (p c : Nat) : nI p * 16 + nI c = nI (16 * p + c) := by
  rw [show (16 : Int32) = nI 16 by decide, pk_mul, nI_add, Nat.mul_comm]
theorem ncl {n : Nat} (h : n < 15001) : (nI n).toNatClampNeg = n := nI_clamp (by omega)
theorem nin {n N : Nat} (h : n < N) (hN : N ≤ 15000) : vp_in (nI n) N := vp_in_nI h (by omega)
theorem nge {a b : Nat} (ha : a < 20000) (hb : b < 20000) : nI b ≤ nI a ↔ b ≤ a := nI_leI (by omega) (by omega)
theorem nlt {a b : Nat} (ha : a < 20000) (hb : b < 20000) : nI a < nI b ↔ a < b := nI_ltI (by omega) (by omega)
theorem n20 : (20 : Int32) = nI 20 := by decide
theorem nm1 {n : Nat} (h : n < 20000) : ¬ nI n = -1 := by
  intro z
  have h1 := congrArg Int32.toInt z
  rw [nI_toInt (by omega), show (-1 : Int32).toInt = -1 by decide] at h1
  omega
/-- a pass's number or none -/
def jpass (x : Int32) (r : Nat) : Prop := x = -1 ∨ ∃ k, k < r ∧ x = nI k
theorem jpass_in {x : Int32} {r N : Nat} (h : jpass x r) (hx : ¬ x = -1) (hr : r ≤ N) (hN : N ≤ 15000) : vp_in x N := by
  rcases h with h | ⟨k, hk, rfl⟩
  · exact absurd h hx
  · exact nin (by omega) hN
/-- the lapse of a pass x of course c, as it stands -/
def cLof (A : Nat → Nat → Int32) (x : Int32) (c : Nat) : Int32 := if x = -1 then -1 else A 12 x.toNatClampNeg + A 2 c + A 14 x.toNatClampNeg
def cLap (A : Nat → Nat → Int32) (p c : Nat) : Int32 := cLof A (A 15 (16 * p + c)) c
abbrev cHold (A : Nat → Nat → Int32) (V : Nat → Int32) (p c : Nat) : Prop := V 0 < cLap A p c
/-- the class's numbers are in range -/
def cWf (A : Nat → Nat → Int32) (V : Nat → Int32) (n r : Nat) : Prop := V 2 = nI n ∧ n ≤ 16 ∧ V 3 = nI r ∧ r ≤ 300 ∧ (∀ q, q < 320 → jpass (A 15 q) r) ∧ ∀ k, k < r → jpass (A 13 k) k
theorem s53 {l : Launch} {E : jEnv} {A : Nat → Nat → Int32} {V : Nat → Int32} {O : Nat → Int64} {Q : jO → List jC → Prop} {x : Int32} {c r : Nat} (hx : jpass x r) (hr : r ≤ 300) (hc : c < 16) (hQ : Q (.inl (some (.int (cLof A x c)))) (hp A V O)) : GO l E 53 0 [some (.ref 0), some (.int x), some (.int (nI c))] [] (hp A V O) 0 0 Q := by
  refine R_iload z53_0 rfl ?_
  refine R_iconst z53_1 (v := (-1)) (by decide) ?_
  refine R_icmp z53_2 (tn := 7) rfl (fun (h2 : ¬ (x : Int32) = (-1)) => ?_) (fun (h2 : ¬ (¬ (x : Int32) = (-1))) => ?_)
  · refine R_aload z53_7 rfl ?_
    refine R_get z53_8 (k := 3) (f := 1) (by decide +kernel) rfl rfl ?_
    refine R_get z53_11 (k := 1) (f := 0) (by decide +kernel) rfl rfl ?_
    refine R_iload z53_14 rfl ?_
    refine R_ild z53_15 (n := 300) (f := A 12) (v := (A 12 (x).toNatClampNeg)) rfl (jpass_in hx h2 hr (by decide)) (rfl) ?_
    refine R_aload z53_16 rfl ?_
    refine R_get z53_17 (k := 3) (f := 0) (by decide +kernel) rfl rfl ?_
    refine R_get z53_20 (k := 0) (f := 0) (by decide +kernel) rfl rfl ?_
    refine R_iload z53_23 rfl ?_
    refine R_ild z53_24 (n := 16) (f := A 2) (v := (A 2 c)) rfl (nin hc (by decide)) (by rw [ncl (by omega)]) ?_
    refine R_iadd z53_25 ?_
    refine R_aload z53_26 rfl ?_
    refine R_get z53_27 (k := 3) (f := 1) (by decide +kernel) rfl rfl ?_
    refine R_get z53_30 (k := 1) (f := 2) (by decide +kernel) rfl rfl ?_
    refine R_iload z53_33 rfl ?_
    refine R_ild z53_34 (n := 300) (f := A 14) (v := (A 14 (x).toNatClampNeg)) rfl (jpass_in hx h2 hr (by decide)) (rfl) ?_
    refine R_iadd z53_35 ?_
    exact R_iret z53_36 (Or.inl (by decide +kernel)) ⟨Nat.zero_le _, Nat.zero_le _⟩ (by have e : cLof A x c = _ := if_neg h2; rw [e] at hQ; exact hQ)
  · refine R_iconst z53_5 (v := (-1)) (by decide) ?_
    exact R_iret z53_6 (Or.inl (by decide +kernel)) ⟨Nat.zero_le _, Nat.zero_le _⟩ (by have e : cLof A x c = -1 := if_pos (Classical.not_not.mp h2); rw [e] at hQ; exact hQ)
theorem s52 {l : Launch} {E : jEnv} {A : Nat → Nat → Int32} {V : Nat → Int32} {O : Nat → Int64} {Q : jO → List jC → Prop} {p c n r : Nat} (hW : cWf A V n r) (hp2 : p < 20) (hc : c < 16) (hQ : Q (.inl (some (.int (cLap A p c)))) (hp A V O)) : GO l E 52 0 [some (.ref 0), some (.int (nI p)), some (.int (nI c))] [] (hp A V O) 0 0 Q := by
  refine R_aload z52_0 rfl ?_
  refine R_aload z52_1 rfl ?_
  refine R_get z52_2 (k := 3) (f := 1) (by decide +kernel) rfl rfl ?_
  refine R_get z52_5 (k := 1) (f := 3) (by decide +kernel) rfl rfl ?_
  refine R_iload z52_8 rfl ?_
  refine R_iload z52_9 rfl ?_
  refine R_cs z52_10 (k := 48) (kind := 1) (by decide +kernel) (by decide) rfl rfl (by decide +kernel) (Nat.le_of_ble_eq_true (by rfl)) rfl ?_
  refine s48 (jBk_ret rfl ⟨rfl, rfl⟩ ?_)
  refine R_top (y := nI (16 * p + c)) (npair p c) ?_
  refine R_ild z52_13 (n := 320) (f := A 15) (v := (A 15 (16 * p + c))) rfl (nin (by omega) (by decide)) (by rw [ncl (by omega)]) ?_
  refine R_iload z52_14 rfl ?_
  refine R_cv z52_15 (k := 53) (by decide +kernel) rfl rfl (by decide +kernel) (Nat.le_of_ble_eq_true (by rfl)) rfl ⟨rfl, trivial⟩ ?_
  refine s53 (hW.2.2.2.2.1 _ (by omega)) hW.2.2.2.1 hc (jBk_ret rfl ⟨rfl, rfl⟩ ?_)
  exact R_iret z52_18 (Or.inl (by decide +kernel)) ⟨Nat.zero_le _, Nat.zero_le _⟩ (hQ)
theorem s54 {l : Launch} {E : jEnv} {A : Nat → Nat → Int32} {V : Nat → Int32} {O : Nat → Int64} {Q : jO → List jC → Prop} {p c n r : Nat} (hW : cWf A V n r) (hp2 : p < 20) (hc : c < 16) (h1 : cHold A V p c → Q (.inl (some (.int 1))) (hp A V O)) (h0 : ¬ cHold A V p c → Q (.inl (some (.int 0))) (hp A V O)) : GO l E 54 0 [some (.ref 0), some (.int (nI p)), some (.int (nI c))] [] (hp A V O) 0 0 Q := by
  refine R_aload z54_0 rfl ?_
  refine R_get z54_1 (k := 3) (f := 3) (by decide +kernel) rfl rfl ?_
  refine R_aload z54_4 rfl ?_
  refine R_iload z54_5 rfl ?_
  refine R_iload z54_6 rfl ?_
  refine R_cv z54_7 (k := 52) (by decide +kernel) rfl rfl (by decide +kernel) (Nat.le_of_ble_eq_true (by rfl)) rfl ⟨rfl, trivial⟩ ?_
  refine s52 hW hp2 hc (jBk_ret rfl ⟨rfl, rfl⟩ ?_)
  refine R_icmp z54_10 (tn := 17) rfl (fun (h10 : ((cLap A p c) : Int32) ≤ (V 0)) => ?_) (fun (h10 : ¬ ((cLap A p c) : Int32) ≤ (V 0)) => ?_)
  · refine R_iconst z54_17 (v := 0) (by decide) ?_
    exact R_iret z54_18 (Or.inr (by decide)) ⟨Nat.zero_le _, Nat.zero_le _⟩ (h0 (fun z => absurd (show cLap A p c ≤ V 0 from h10) (Int32.not_le.mpr z)))
  · refine R_iconst z54_13 (v := 1) (by decide) ?_
    refine R_goto z54_14 (tn := 18) rfl ?_
    exact R_iret z54_18 (Or.inr (by decide)) ⟨Nat.zero_le _, Nat.zero_le _⟩ (h1 (Int32.not_le.mp (show ¬ cLap A p c ≤ V 0 from h10)))
theorem s56_lp {l : Launch} {E : jEnv} {A : Nat → Nat → Int32} {V : Nat → Int32} {O : Nat → Int64} {Q : jO → List jC → Prop} {p c n r : Nat} (hW : cWf A V n r) (hp2 : p < 20) (hc : c < 16) (h1 : (∀ o, o < n → jbit (A 6 c) (nI o) → cHold A V p o) → Q (.inl (some (.int 1))) (hp A V O)) (h0 : (∃ o, o < n ∧ jbit (A 6 c) (nI o) ∧ ¬ cHold A V p o) → Q (.inl (some (.int 0))) (hp A V O)) : ∀ (d k : Nat), k + d = n → (∀ o, o < k → jbit (A 6 c) (nI o) → cHold A V p o) → GO l E 56 2 [some (.ref 0), some (.int (nI p)), some (.int (nI c)), some (.int (nI k))] [] (hp A V O) 0 0 Q := by
  intro d
  induction d with
  | zero =>
    intro k hk ha
    have hn16 := hW.2.1
    have hr300 := hW.2.2.2.1
    refine R_iload z56_2 rfl ?_
    refine R_aload z56_3 rfl ?_
    refine R_get z56_4 (k := 3) (f := 0) (by decide +kernel) rfl rfl ?_
    refine R_get z56_7 (k := 0) (f := 9) (by decide +kernel) rfl rfl ?_
    refine R_icmp z56_10 (tn := 46) rfl (fun (h10 : ((V 2) : Int32) ≤ (nI k)) => ?_) (fun q => absurd ((show V 2 ≤ nI k by rw [hW.1, nge (by omega) (by omega)]; omega)) q)
    refine R_iconst z56_46 (v := 1) (by decide) ?_
    exact R_iret z56_47 (Or.inr (by decide)) ⟨Nat.zero_le _, Nat.zero_le _⟩ (h1 (fun o ho => ha o (by omega)))
  | succ d ih =>
    intro k hk ha
    have hn16 := hW.2.1
    have hr300 := hW.2.2.2.1
    refine R_iload z56_2 rfl ?_
    refine R_aload z56_3 rfl ?_
    refine R_get z56_4 (k := 3) (f := 0) (by decide +kernel) rfl rfl ?_
    refine R_get z56_7 (k := 0) (f := 9) (by decide +kernel) rfl rfl ?_
    refine R_icmp z56_10 (tn := 46) rfl (fun q => absurd q ((show ¬ V 2 ≤ nI k by rw [hW.1, nge (by omega) (by omega)]; omega))) (fun (h10 : ¬ ((V 2) : Int32) ≤ (nI k)) => ?_)
    refine R_aload z56_13 rfl ?_
    refine R_get z56_14 (k := 3) (f := 0) (by decide +kernel) rfl rfl ?_
    refine R_get z56_17 (k := 0) (f := 4) (by decide +kernel) rfl rfl ?_
    refine R_iload z56_20 rfl ?_
    refine R_ild z56_21 (n := 16) (f := A 6) (v := (A 6 c)) rfl (nin hc (by decide)) (by rw [ncl (by omega)]) ?_
    refine R_iload z56_22 rfl ?_
    refine R_cs z56_23 (k := 49) (kind := 1) (by decide +kernel) (by decide) rfl rfl (by decide +kernel) (Nat.le_of_ble_eq_true (by rfl)) rfl ?_
    refine s49 (fun g => jBk_ret rfl ⟨rfl, rfl⟩ ?_) (fun g => jBk_ret rfl ⟨rfl, rfl⟩ ?_)
    · refine R_if z56_26 (tn := 40) rfl (fun q => absurd q (show ¬ (1 : Int32) = 0 by decide)) (fun (h26 : ¬ (1 : Int32) = 0) => ?_)
      refine R_aload z56_29 rfl ?_
      refine R_iload z56_30 rfl ?_
      refine R_iload z56_31 rfl ?_
      refine R_cv z56_32 (k := 54) (by decide +kernel) rfl rfl (by decide +kernel) (Nat.le_of_ble_eq_true (by rfl)) rfl ⟨rfl, trivial⟩ ?_
      refine s54 hW hp2 (by have := hW.2.1; omega) (fun g2 => jBk_ret rfl ⟨rfl, rfl⟩ ?_) (fun g2 => jBk_ret rfl ⟨rfl, rfl⟩ ?_)
      · refine R_if z56_35 (tn := 40) rfl (fun (h35 : ¬ (1 : Int32) = 0) => ?_) (fun q => absurd (show ¬ (1 : Int32) = 0 by decide) q)
        refine R_iinc z56_40 (v := 1) (loc' := [some (.ref 0), some (.int (nI p)), some (.int (nI c)), some (.int (nI (k + 1)))]) rfl rfl (by decide) (by rw [nI_1]; rfl) ?_
        refine R_goto z56_43 (tn := 2) rfl ?_
        exact ih (k + 1) (by omega) (fun o ho b => by
          rcases Nat.lt_or_ge o k with q | q
          · exact ha o q b
          · rw [show o = k by omega]; exact g2)
      · refine R_if z56_35 (tn := 40) rfl (fun q => absurd rfl q) (fun _ => ?_)
        refine R_iconst z56_38 (v := 0) (by decide) ?_
        exact R_iret z56_39 (Or.inr (by decide)) ⟨Nat.zero_le _, Nat.zero_le _⟩ (h0 ⟨k, by omega, g, g2⟩)
    · refine R_if z56_26 (tn := 40) rfl (fun _ => ?_) (fun q => absurd rfl q)
      refine R_iinc z56_40 (v := 1) (loc' := [some (.ref 0), some (.int (nI p)), some (.int (nI c)), some (.int (nI (k + 1)))]) rfl rfl (by decide) (by rw [nI_1]; rfl) ?_
      refine R_goto z56_43 (tn := 2) rfl ?_
      exact ih (k + 1) (by omega) (fun o ho b => by
        rcases Nat.lt_or_ge o k with q | q
        · exact ha o q b
        · exact absurd (show jbit (A 6 c) (nI k) by rw [show k = o by omega]; exact b) g)
theorem s56 {l : Launch} {E : jEnv} {A : Nat → Nat → Int32} {V : Nat → Int32} {O : Nat → Int64} {Q : jO → List jC → Prop} {p c n r : Nat} (hW : cWf A V n r) (hp2 : p < 20) (hc : c < 16) (h1 : (∀ o, o < n → jbit (A 6 c) (nI o) → cHold A V p o) → Q (.inl (some (.int 1))) (hp A V O)) (h0 : (∃ o, o < n ∧ jbit (A 6 c) (nI o) ∧ ¬ cHold A V p o) → Q (.inl (some (.int 0))) (hp A V O)) : GO l E 56 0 [some (.ref 0), some (.int (nI p)), some (.int (nI c)), none] [] (hp A V O) 0 0 Q := by
  refine R_iconst z56_0 (v := 0) (by decide) ?_
  refine R_istore z56_1 (loc' := [some (.ref 0), some (.int (nI p)), some (.int (nI c)), some (.int 0)]) rfl rfl ?_
  exact s56_lp hW hp2 hc h1 h0 n 0 (by omega) (fun o ho => absurd ho (by omega))
/-- how many of the first k persons count as instructors of c -/
def cCnt (A : Nat → Nat → Int32) (V : Nat → Int32) (c : Nat) : Nat → Nat
  | 0 => 0
  | k + 1 => cCnt A V c k + (if jbit (A 8 c) (nI k) ∧ cHold A V k c then 1 else 0)
theorem cCnt_le (A : Nat → Nat → Int32) (V : Nat → Int32) (c : Nat) : ∀ k, cCnt A V c k ≤ k
  | 0 => Nat.le_refl 0
  | k + 1 => by
    have := cCnt_le A V c k
    unfold cCnt
    split <;> omega
theorem s58_lp {l : Launch} {E : jEnv} {A : Nat → Nat → Int32} {V : Nat → Int32} {O : Nat → Int64} {Q : jO → List jC → Prop} {c n r : Nat} (hW : cWf A V n r) (hc : c < 16) (hQ : Q (.inl (some (.int (nI (cCnt A V c 20))))) (hp A V O)) : ∀ (d k : Nat), k + d = 20 →  GO l E 58 4 [some (.ref 0), some (.int (nI c)), some (.int (nI (cCnt A V c k))), some (.int (nI k))] [] (hp A V O) 0 0 Q := by
  intro d
  induction d with
  | zero =>
    intro k hk 
    have hn16 := hW.2.1
    have hr300 := hW.2.2.2.1
    refine R_iload z58_4 rfl ?_
    refine R_bipush z58_5 (v := 20) (by decide) ?_
    refine R_icmp z58_7 (tn := 44) rfl (fun (h7 : (20 : Int32) ≤ (nI k)) => ?_) (fun q => absurd ((show (20 : Int32) ≤ nI k by rw [n20, nge (by omega) (by omega)]; omega)) q)
    refine R_iload z58_44 rfl ?_
    exact R_iret z58_45 (Or.inl (by decide +kernel)) ⟨Nat.zero_le _, Nat.zero_le _⟩ (by rw [show k = 20 by omega]; exact hQ)
  | succ d ih =>
    intro k hk 
    have hn16 := hW.2.1
    have hr300 := hW.2.2.2.1
    refine R_iload z58_4 rfl ?_
    refine R_bipush z58_5 (v := 20) (by decide) ?_
    refine R_icmp z58_7 (tn := 44) rfl (fun q => absurd q ((show ¬ (20 : Int32) ≤ nI k by rw [n20, nge (by omega) (by omega)]; omega))) (fun (h7 : ¬ (20 : Int32) ≤ (nI k)) => ?_)
    refine R_aload z58_10 rfl ?_
    refine R_get z58_11 (k := 3) (f := 0) (by decide +kernel) rfl rfl ?_
    refine R_get z58_14 (k := 0) (f := 6) (by decide +kernel) rfl rfl ?_
    refine R_iload z58_17 rfl ?_
    refine R_ild z58_18 (n := 16) (f := A 8) (v := (A 8 c)) rfl (nin hc (by decide)) (by rw [ncl (by omega)]) ?_
    refine R_iload z58_19 rfl ?_
    refine R_cs z58_20 (k := 49) (kind := 1) (by decide +kernel) (by decide) rfl rfl (by decide +kernel) (Nat.le_of_ble_eq_true (by rfl)) rfl ?_
    refine s49 (fun g => jBk_ret rfl ⟨rfl, rfl⟩ ?_) (fun g => jBk_ret rfl ⟨rfl, rfl⟩ ?_)
    · refine R_if z58_23 (tn := 38) rfl (fun q => absurd q (show ¬ (1 : Int32) = 0 by decide)) (fun (h23 : ¬ (1 : Int32) = 0) => ?_)
      refine R_aload z58_26 rfl ?_
      refine R_iload z58_27 rfl ?_
      refine R_iload z58_28 rfl ?_
      refine R_cv z58_29 (k := 54) (by decide +kernel) rfl rfl (by decide +kernel) (Nat.le_of_ble_eq_true (by rfl)) rfl ⟨rfl, trivial⟩ ?_
      refine s54 hW (by omega) hc (fun g2 => jBk_ret rfl ⟨rfl, rfl⟩ ?_) (fun g2 => jBk_ret rfl ⟨rfl, rfl⟩ ?_)
      · refine R_if z58_32 (tn := 38) rfl (fun q => absurd q (show ¬ (1 : Int32) = 0 by decide)) (fun (h32 : ¬ (1 : Int32) = 0) => ?_)
        refine R_iinc z58_35 (v := 1) (loc' := [some (.ref 0), some (.int (nI c)), some (.int (nI (cCnt A V c k + 1))), some (.int (nI k))]) rfl rfl (by decide) (by rw [nI_1]; rfl) ?_
        refine R_iinc z58_38 (v := 1) (loc' := [some (.ref 0), some (.int (nI c)), some (.int (nI (cCnt A V c k + 1))), some (.int (nI (k + 1)))]) rfl rfl (by decide) (by rw [nI_1]; rfl) ?_
        refine R_goto z58_41 (tn := 4) rfl ?_
        have e : cCnt A V c (k + 1) = cCnt A V c k + 1 := by rw [cCnt, if_pos ⟨g, g2⟩]
        have ih2 := ih (k + 1) (by omega)
        rw [e] at ih2
        exact ih2
      · refine R_if z58_32 (tn := 38) rfl (fun _ => ?_) (fun q => absurd rfl q)
        refine R_iinc z58_38 (v := 1) (loc' := [some (.ref 0), some (.int (nI c)), some (.int (nI (cCnt A V c k))), some (.int (nI (k + 1)))]) rfl rfl (by decide) (by rw [nI_1]; rfl) ?_
        refine R_goto z58_41 (tn := 4) rfl ?_
        have e : cCnt A V c (k + 1) = cCnt A V c k := by rw [cCnt, if_neg (fun z => g2 z.2), Nat.add_zero]
        have ih2 := ih (k + 1) (by omega)
        rw [e] at ih2
        exact ih2
    · refine R_if z58_23 (tn := 38) rfl (fun _ => ?_) (fun q => absurd rfl q)
      refine R_iinc z58_38 (v := 1) (loc' := [some (.ref 0), some (.int (nI c)), some (.int (nI (cCnt A V c k))), some (.int (nI (k + 1)))]) rfl rfl (by decide) (by rw [nI_1]; rfl) ?_
      refine R_goto z58_41 (tn := 4) rfl ?_
      have e : cCnt A V c (k + 1) = cCnt A V c k := by rw [cCnt, if_neg (fun z => g z.1), Nat.add_zero]
      have ih2 := ih (k + 1) (by omega)
      rw [e] at ih2
      exact ih2
theorem s58 {l : Launch} {E : jEnv} {A : Nat → Nat → Int32} {V : Nat → Int32} {O : Nat → Int64} {Q : jO → List jC → Prop} {c n r : Nat} (hW : cWf A V n r) (hc : c < 16) (hQ : Q (.inl (some (.int (nI (cCnt A V c 20))))) (hp A V O)) : GO l E 58 0 [some (.ref 0), some (.int (nI c)), none, none] [] (hp A V O) 0 0 Q := by
  refine R_iconst z58_0 (v := 0) (by decide) ?_
  refine R_istore z58_1 (loc' := [some (.ref 0), some (.int (nI c)), some (.int 0), none]) rfl rfl ?_
  refine R_iconst z58_2 (v := 0) (by decide) ?_
  refine R_istore z58_3 (loc' := [some (.ref 0), some (.int (nI c)), some (.int 0), some (.int 0)]) rfl rfl ?_
  exact s58_lp hW hc hQ 20 0 (by omega)

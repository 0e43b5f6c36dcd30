theorem s1 {l : Launch} {E : jEnv} {A : Nat → Nat → Int32} {V : Nat → Int32} {O : Nat → Int64} {Q : jO → List jC → Prop} {x y : Int32} (h1 : x < y → Q (.inl (some (.int y))) (hp A V O)) (h0 : ¬ x < y → Q (.inl (some (.int x))) (hp A V O)) : GO l E 1 0 [some (.int x), some (.int y)] [] (hp A V O) 0 0 Q := by
  refine R_iload z1_0 rfl ?_
  refine R_iload z1_1 rfl ?_
  refine R_icmp z1_2 (tn := 9) rfl (fun (h2 : (x : Int32) < y) => ?_) (fun (h2 : ¬ (x : Int32) < y) => ?_)
  · refine R_iload z1_9 rfl ?_
    exact R_iret z1_10 (Or.inl (by decide +kernel)) ⟨Nat.zero_le _, Nat.zero_le _⟩ (h1 h2)
  · refine R_iload z1_5 rfl ?_
    refine R_goto z1_6 (tn := 10) rfl ?_
    exact R_iret z1_10 (Or.inl (by decide +kernel)) ⟨Nat.zero_le _, Nat.zero_le _⟩ (h0 h2)
theorem s2 {l : Launch} {E : jEnv} {A : Nat → Nat → Int32} {V : Nat → Int32} {O : Nat → Int64} {Q : jO → List jC → Prop} {x y : Int32} (h1 : y < x → Q (.inl (some (.int y))) (hp A V O)) (h0 : ¬ y < x → Q (.inl (some (.int x))) (hp A V O)) : GO l E 2 0 [some (.int x), some (.int y)] [] (hp A V O) 0 0 Q := by
  refine R_iload z2_0 rfl ?_
  refine R_iload z2_1 rfl ?_
  refine R_icmp z2_2 (tn := 9) rfl (fun (h2 : (y : Int32) < x) => ?_) (fun (h2 : ¬ (y : Int32) < x) => ?_)
  · refine R_iload z2_9 rfl ?_
    exact R_iret z2_10 (Or.inl (by decide +kernel)) ⟨Nat.zero_le _, Nat.zero_le _⟩ (h1 h2)
  · refine R_iload z2_5 rfl ?_
    refine R_goto z2_6 (tn := 10) rfl ?_
    exact R_iret z2_10 (Or.inl (by decide +kernel)) ⟨Nat.zero_le _, Nat.zero_le _⟩ (h0 h2)
def cAll (A : Nat → Nat → Int32) (V : Nat → Int32) : Nat → Nat
  | 0 => 0
  | k + 1 => cAll A V k + cCnt A V k 20
theorem s59_lp {l : Launch} {E : jEnv} {A : Nat → Nat → Int32} {V : Nat → Int32} {O : Nat → Int64} {Q : jO → List jC → Prop} { n r : Nat} (hW : cWf A V n r) (hQ : Q (.inl (some (.int (nI (cAll A V n))))) (hp A V O)) : ∀ (d k : Nat), k + d = n →  GO l E 59 4 [some (.ref 0), some (.int (nI (cAll A V k))), some (.int (nI k))] [] (hp A V O) 0 0 Q := by
  intro d
  induction d with
  | zero =>
    intro k hk 
    have hn16 := hW.2.1
    have hr300 := hW.2.2.2.1
    refine R_iload z59_4 rfl ?_
    refine R_aload z59_5 rfl ?_
    refine R_get z59_6 (k := 3) (f := 0) (by decide +kernel) rfl rfl ?_
    refine R_get z59_9 (k := 0) (f := 9) (by decide +kernel) rfl rfl ?_
    refine R_icmp z59_12 (tn := 29) rfl (fun (h12 : ((V 2) : Int32) ≤ (nI k)) => ?_) (fun q => absurd ((show V 2 ≤ nI k by rw [hW.1, nge (by omega) (by omega)]; omega)) q)
    refine R_iload z59_29 rfl ?_
    exact R_iret z59_30 (Or.inl (by decide +kernel)) ⟨Nat.zero_le _, Nat.zero_le _⟩ (by rw [show k = n by omega]; exact hQ)
  | succ d ih =>
    intro k hk 
    have hn16 := hW.2.1
    have hr300 := hW.2.2.2.1
    refine R_iload z59_4 rfl ?_
    refine R_aload z59_5 rfl ?_
    refine R_get z59_6 (k := 3) (f := 0) (by decide +kernel) rfl rfl ?_
    refine R_get z59_9 (k := 0) (f := 9) (by decide +kernel) rfl rfl ?_
    refine R_icmp z59_12 (tn := 29) rfl (fun q => absurd q ((show ¬ V 2 ≤ nI k by rw [hW.1, nge (by omega) (by omega)]; omega))) (fun (h12 : ¬ ((V 2) : Int32) ≤ (nI k)) => ?_)
    refine R_iload z59_15 rfl ?_
    refine R_aload z59_16 rfl ?_
    refine R_iload z59_17 rfl ?_
    refine R_cv z59_18 (k := 58) (by decide +kernel) rfl rfl (by decide +kernel) (Nat.le_of_ble_eq_true (by rfl)) rfl ⟨rfl, trivial⟩ ?_
    refine s58 hW (by omega) (jBk_ret rfl ⟨rfl, rfl⟩ ?_)
    refine R_iadd z59_21 ?_
    refine R_top (y := nI (cAll A V (k + 1))) (by rw [nI_add]; rfl) ?_
    refine R_istore z59_22 (loc' := [some (.ref 0), some (.int (nI (cAll A V (k + 1)))), some (.int (nI k))]) rfl rfl ?_
    refine R_iinc z59_23 (v := 1) (loc' := [some (.ref 0), some (.int (nI (cAll A V (k + 1)))), some (.int (nI (k + 1)))]) rfl rfl (by decide) (by rw [nI_1]; rfl) ?_
    refine R_goto z59_26 (tn := 4) rfl ?_
    exact ih (k + 1) (by omega)
theorem s59 {l : Launch} {E : jEnv} {A : Nat → Nat → Int32} {V : Nat → Int32} {O : Nat → Int64} {Q : jO → List jC → Prop} { n r : Nat} (hW : cWf A V n r) (hQ : Q (.inl (some (.int (nI (cAll A V n))))) (hp A V O)) : GO l E 59 0 [some (.ref 0), none, none] [] (hp A V O) 0 0 Q := by
  refine R_iconst z59_0 (v := 0) (by decide) ?_
  refine R_istore z59_1 (loc' := [some (.ref 0), some (.int 0), none]) rfl rfl ?_
  refine R_iconst z59_2 (v := 0) (by decide) ?_
  refine R_istore z59_3 (loc' := [some (.ref 0), some (.int 0), some (.int 0)]) rfl rfl ?_
  exact s59_lp hW hQ n 0 (by omega)
def cRoom (A : Nat → Nat → Int32) (V : Nat → Int32) (c : Nat) : Int32 := if (0 : Int32) < A 5 c * nI (cCnt A V c 20) - A 9 c then A 5 c * nI (cCnt A V c 20) - A 9 c else 0
theorem s57 {l : Launch} {E : jEnv} {A : Nat → Nat → Int32} {V : Nat → Int32} {O : Nat → Int64} {Q : jO → List jC → Prop} {c n r : Nat} (hW : cWf A V n r) (hc : c < 16) (hQ : Q (.inl (some (.int (cRoom A V c)))) (hp A V O)) : GO l E 57 0 [some (.ref 0), some (.int (nI c)), none] [] (hp A V O) 0 0 Q := by
  refine R_aload z57_0 rfl ?_
  refine R_get z57_1 (k := 3) (f := 0) (by decide +kernel) rfl rfl ?_
  refine R_get z57_4 (k := 0) (f := 3) (by decide +kernel) rfl rfl ?_
  refine R_iload z57_7 rfl ?_
  refine R_ild z57_8 (n := 16) (f := A 5) (v := (A 5 c)) rfl (nin hc (by decide)) (by rw [ncl (by omega)]) ?_
  refine R_aload z57_9 rfl ?_
  refine R_iload z57_10 rfl ?_
  refine R_cv z57_11 (k := 58) (by decide +kernel) rfl rfl (by decide +kernel) (Nat.le_of_ble_eq_true (by rfl)) rfl ⟨rfl, trivial⟩ ?_
  refine s58 hW hc (jBk_ret rfl ⟨rfl, rfl⟩ ?_)
  refine R_imul z57_14 ?_
  refine R_istore z57_15 (loc' := [some (.ref 0), some (.int (nI c)), some (.int ((A 5 c) * (nI (cCnt A V c 20))))]) rfl rfl ?_
  refine R_iconst z57_16 (v := 0) (by decide) ?_
  refine R_iload z57_17 rfl ?_
  refine R_aload z57_18 rfl ?_
  refine R_get z57_19 (k := 3) (f := 0) (by decide +kernel) rfl rfl ?_
  refine R_get z57_22 (k := 0) (f := 7) (by decide +kernel) rfl rfl ?_
  refine R_iload z57_25 rfl ?_
  refine R_ild z57_26 (n := 16) (f := A 9) (v := (A 9 c)) rfl (nin hc (by decide)) (by rw [ncl (by omega)]) ?_
  refine R_isub z57_27 ?_
  refine R_cs z57_28 (k := 1) (kind := 1) (by decide +kernel) (by decide) rfl rfl (by decide +kernel) (Nat.le_of_ble_eq_true (by rfl)) rfl ?_
  refine s1 (fun g => jBk_ret rfl ⟨rfl, rfl⟩ ?_) (fun g => jBk_ret rfl ⟨rfl, rfl⟩ ?_)
  · exact R_iret z57_31 (Or.inl (by decide +kernel)) ⟨Nat.zero_le _, Nat.zero_le _⟩ (by have e : cRoom A V c = _ := if_pos g; rw [e] at hQ; exact hQ)
  · exact R_iret z57_31 (Or.inl (by decide +kernel)) ⟨Nat.zero_le _, Nat.zero_le _⟩ (by have e : cRoom A V c = _ := if_neg g; rw [e] at hQ; exact hQ)
/-- why a person is barred: 0 to 3 -/
noncomputable def cWhy (A : Nat → Nat → Int32) (V : Nat → Int32) (n p c : Nat) : Nat := @ite _ (∃ o, o < n ∧ jbit (A 6 c) (nI o) ∧ ¬ cHold A V p o) (Classical.propDecidable _) 1 (if jbit (A 8 c) (nI p) then 2 else if ¬ A 17 (16 * p + c) < 3 ∧ ¬ V 1 ≤ V 0 - A 16 (16 * p + c) then 3 else 0)
theorem s55_b {l : Launch} {E : jEnv} {A : Nat → Nat → Int32} {V : Nat → Int32} {O : Nat → Int64} {Q : jO → List jC → Prop} {p c n r : Nat} (hW : cWf A V n r) (hp2 : p < 20) (hc : c < 16) (e0 : cWhy A V n p c = (if jbit (A 8 c) (nI p) then 2 else if ¬ A 17 (16 * p + c) < 3 ∧ ¬ V 1 ≤ V 0 - A 16 (16 * p + c) then 3 else 0)) (g2 : ¬ jbit (A 8 c) (nI p)) (hQ : Q (.inl (some (.int (nI (cWhy A V n p c))))) (hp A V O)) : GO l E 55 24 [some (.ref 0), some (.int (nI p)), some (.int (nI c)), none, none] [.int 0] (hp A V O) 0 0 Q := by
  rw [e0, if_neg g2] at hQ
  refine R_if z55_24 (tn := 29) rfl (fun (h24 : (0 : Int32) = 0) => ?_) (fun q => absurd (show (0 : Int32) = 0 from rfl) q)
  refine R_iload z55_29 rfl ?_
  refine R_iload z55_30 rfl ?_
  refine R_cs z55_31 (k := 48) (kind := 1) (by decide +kernel) (by decide) rfl rfl (by decide +kernel) (Nat.le_of_ble_eq_true (by rfl)) rfl ?_
  refine s48 (jBk_ret rfl ⟨rfl, rfl⟩ ?_)
  refine R_top (y := nI (16 * p + c)) (npair p c) ?_
  refine R_istore z55_34 (loc' := [some (.ref 0), some (.int (nI p)), some (.int (nI c)), some (.int (nI (16 * p + c))), none]) rfl rfl ?_
  refine R_aload z55_35 rfl ?_
  refine R_get z55_36 (k := 3) (f := 1) (by decide +kernel) rfl rfl ?_
  refine R_get z55_39 (k := 1) (f := 5) (by decide +kernel) rfl rfl ?_
  refine R_iload z55_42 rfl ?_
  refine R_ild z55_43 (n := 320) (f := A 17) (v := (A 17 (16 * p + c))) rfl (nin (by omega) (by decide)) (by rw [ncl (by omega)]) ?_
  refine R_iconst z55_44 (v := 3) (by decide) ?_
  refine R_icmp z55_45 (tn := 52) rfl (fun (h45 : ((A 17 (16 * p + c)) : Int32) < 3) => ?_) (fun (h45 : ¬ ((A 17 (16 * p + c)) : Int32) < 3) => ?_)
  · refine R_iconst z55_52 (v := 0) (by decide) ?_
    refine R_istore z55_53 (loc' := [some (.ref 0), some (.int (nI p)), some (.int (nI c)), some (.int (nI (16 * p + c))), some (.int 0)]) rfl rfl ?_
    refine R_iload z55_55 rfl ?_
    refine R_if z55_57 (tn := 83) rfl (fun _ => ?_) (fun q => absurd (show (0 : Int32) = 0 by decide) q)
    refine R_iconst z55_83 (v := 0) (by decide) ?_
    exact R_iret z55_84 (Or.inl (by decide +kernel)) ⟨Nat.zero_le _, Nat.zero_le _⟩ (by rw [if_neg (fun z => z.1 h45)] at hQ; exact hQ)
  · refine R_iconst z55_48 (v := 1) (by decide) ?_
    refine R_goto z55_49 (tn := 53) rfl ?_
    refine R_istore z55_53 (loc' := [some (.ref 0), some (.int (nI p)), some (.int (nI c)), some (.int (nI (16 * p + c))), some (.int 1)]) rfl rfl ?_
    refine R_iload z55_55 rfl ?_
    refine R_if z55_57 (tn := 83) rfl (fun q => absurd (show (1 : Int32) = 0 from q) (by decide)) (fun _ => ?_)
    refine R_aload z55_60 rfl ?_
    refine R_get z55_61 (k := 3) (f := 3) (by decide +kernel) rfl rfl ?_
    refine R_aload z55_64 rfl ?_
    refine R_get z55_65 (k := 3) (f := 1) (by decide +kernel) rfl rfl ?_
    refine R_get z55_68 (k := 1) (f := 4) (by decide +kernel) rfl rfl ?_
    refine R_iload z55_71 rfl ?_
    refine R_ild z55_72 (n := 320) (f := A 16) (v := (A 16 (16 * p + c))) rfl (nin (by omega) (by decide)) (by rw [ncl (by omega)]) ?_
    refine R_isub z55_73 ?_
    refine R_aload z55_74 rfl ?_
    refine R_get z55_75 (k := 3) (f := 4) (by decide +kernel) rfl rfl ?_
    refine R_icmp z55_78 (tn := 83) rfl (fun (h78 : ((V 1) : Int32) ≤ ((V 0) - (A 16 (16 * p + c)))) => ?_) (fun (h78 : ¬ ((V 1) : Int32) ≤ ((V 0) - (A 16 (16 * p + c)))) => ?_)
    · refine R_iconst z55_83 (v := 0) (by decide) ?_
      exact R_iret z55_84 (Or.inl (by decide +kernel)) ⟨Nat.zero_le _, Nat.zero_le _⟩ (by rw [if_neg (fun z => z.2 h78)] at hQ; exact hQ)
    · refine R_iconst z55_81 (v := 3) (by decide) ?_
      exact R_iret z55_82 (Or.inl (by decide +kernel)) ⟨Nat.zero_le _, Nat.zero_le _⟩ (by rw [if_pos ⟨h45, h78⟩] at hQ; exact hQ)
theorem s55 {l : Launch} {E : jEnv} {A : Nat → Nat → Int32} {V : Nat → Int32} {O : Nat → Int64} {Q : jO → List jC → Prop} {p c n r : Nat} (hW : cWf A V n r) (hp2 : p < 20) (hc : c < 16) (hQ : Q (.inl (some (.int (nI (cWhy A V n p c))))) (hp A V O)) : GO l E 55 0 [some (.ref 0), some (.int (nI p)), some (.int (nI c)), none, none] [] (hp A V O) 0 0 Q := by
  refine R_aload z55_0 rfl ?_
  refine R_iload z55_1 rfl ?_
  refine R_iload z55_2 rfl ?_
  refine R_cv z55_3 (k := 56) (by decide +kernel) rfl rfl (by decide +kernel) (Nat.le_of_ble_eq_true (by rfl)) rfl ⟨rfl, trivial⟩ ?_
  refine s56 hW hp2 hc (fun g => jBk_ret rfl ⟨rfl, rfl⟩ ?_) (fun g => jBk_ret rfl ⟨rfl, rfl⟩ ?_)
  · refine R_if z55_6 (tn := 11) rfl (fun (h6 : ¬ (1 : Int32) = 0) => ?_) (fun q => absurd (show ¬ (1 : Int32) = 0 by decide) q)
    have e0 : cWhy A V n p c = (if jbit (A 8 c) (nI p) then 2 else if ¬ A 17 (16 * p + c) < 3 ∧ ¬ V 1 ≤ V 0 - A 16 (16 * p + c) then 3 else 0) := if_neg (fun ⟨o, a, b, q⟩ => q (g o a b))
    refine R_aload z55_11 rfl ?_
    refine R_get z55_12 (k := 3) (f := 0) (by decide +kernel) rfl rfl ?_
    refine R_get z55_15 (k := 0) (f := 6) (by decide +kernel) rfl rfl ?_
    refine R_iload z55_18 rfl ?_
    refine R_ild z55_19 (n := 16) (f := A 8) (v := (A 8 c)) rfl (nin hc (by decide)) (by rw [ncl (by omega)]) ?_
    refine R_iload z55_20 rfl ?_
    refine R_cs z55_21 (k := 49) (kind := 1) (by decide +kernel) (by decide) rfl rfl (by decide +kernel) (Nat.le_of_ble_eq_true (by rfl)) rfl ?_
    refine s49 (fun g2 => jBk_ret rfl ⟨rfl, rfl⟩ ?_) (fun g2 => jBk_ret rfl ⟨rfl, rfl⟩ ?_)
    · refine R_if z55_24 (tn := 29) rfl (fun q => absurd q (show ¬ (1 : Int32) = 0 by decide)) (fun (h24 : ¬ (1 : Int32) = 0) => ?_)
      refine R_iconst z55_27 (v := 2) (by decide) ?_
      exact R_iret z55_28 (Or.inl (by decide +kernel)) ⟨Nat.zero_le _, Nat.zero_le _⟩ (by rw [e0, if_pos g2] at hQ; exact hQ)
    · exact s55_b hW hp2 hc e0 g2 hQ
  · refine R_if z55_6 (tn := 11) rfl (fun q => absurd rfl q) (fun _ => ?_)
    refine R_iconst z55_9 (v := 1) (by decide) ?_
    exact R_iret z55_10 (Or.inl (by decide +kernel)) ⟨Nat.zero_le _, Nat.zero_le _⟩ (by have e : cWhy A V n p c = 1 := if_pos g; rw [e] at hQ; exact hQ)

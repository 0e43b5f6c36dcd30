abbrev jrg (v a b : Int32) : Prop := ¬ v < a ∧ v ≤ b
abbrev jbad (V : Nat → Int32) (p c : Int32) : Prop := p < 0 ∨ ¬ p < 20 ∨ c < 0 ∨ ¬ c < V 2
theorem jnat {x : Int32} {n : Nat} (h0 : ¬ x < 0) (h1 : x < nI n) (hn : n < 20000) : ∃ k, k < n ∧ x = nI k := by
  obtain ⟨j, hj, rfl⟩ := nI_of h0
  refine ⟨j, ?_, rfl⟩
  exact (nI_ltI hj (by omega)).mp h1
theorem s36_b {l : Launch} {E : jEnv} {A : Nat → Nat → Int32} {V : Nat → Int32} {O : Nat → Int64} {Q : jO → List jC → Prop} {p c n r : Nat} (hW : cWf A V n r) (hp2 : p < 20) (hc : c < 16) (hcn : c < n) (hQ : Q (.inl (some (.int (cLap A p c)))) (hp A V O)) : GO l E 36 6 [some (.ref 0), some (.int (nI p)), some (.int (nI c))] [] (hp A V O) 0 0 Q := by
  refine R_aload z36_6 rfl ?_
  refine R_iload z36_7 rfl ?_
  refine R_iload z36_8 rfl ?_
  refine R_cv z36_9 (k := 52) (by decide +kernel) rfl rfl (by decide +kernel) (Nat.le_of_ble_eq_true (by rfl)) rfl ⟨rfl, trivial⟩ ?_
  refine s52 hW hp2 hc (jBk_ret rfl ⟨rfl, rfl⟩ ?_)
  exact R_iret z36_12 (Or.inl (by decide +kernel)) ⟨Nat.zero_le _, Nat.zero_le _⟩ (hQ)
theorem s36 {l : Launch} {E : jEnv} {A : Nat → Nat → Int32} {V : Nat → Int32} {O : Nat → Int64} {Q : jO → List jC → Prop} {p c : Int32} {n r : Nat} (hW : cWf A V n r) (hbad : jbad V p c → Q (.inr "java/lang/IllegalArgumentException") (hp A V O)) (hok : ∀ p2 c2 : Nat, p = nI p2 → c = nI c2 → p2 < 20 → c2 < n → Q (.inl (some (.int (cLap A p2 c2)))) (hp A V O)) : GO l E 36 0 [some (.ref 0), some (.int p), some (.int c)] [] (hp A V O) 0 0 Q := by
  refine R_aload z36_0 rfl ?_
  refine R_iload z36_1 rfl ?_
  refine R_iload z36_2 rfl ?_
  refine R_cv z36_3 (k := 45) (by decide +kernel) rfl rfl (by decide +kernel) (Nat.le_of_ble_eq_true (by rfl)) rfl ⟨rfl, trivial⟩ ?_
  refine s45 (fun g1 g2 g3 g4 => jBk_ret rfl ⟨rfl, rfl⟩ ?_) (fun g => jBk_thr rfl ⟨rfl, rfl⟩ (hbad g))
  have hn16 := hW.2.1
  rw [n20] at g2
  rw [hW.1] at g4
  obtain ⟨p2, hp2, rfl⟩ := jnat g1 g2 (by omega)
  obtain ⟨c2, hc2, rfl⟩ := jnat g3 g4 (by omega)
  exact s36_b hW hp2 (by omega) (by omega) (hok p2 c2 rfl rfl hp2 hc2)
theorem s37_b {l : Launch} {E : jEnv} {A : Nat → Nat → Int32} {V : Nat → Int32} {O : Nat → Int64} {Q : jO → List jC → Prop} {p c n r : Nat} (hW : cWf A V n r) (hp2 : p < 20) (hc : c < 16) (hcn : c < n) (hQ : Q (.inl (some (.int (A 17 (16 * p + c))))) (hp A V O)) : GO l E 37 6 [some (.ref 0), some (.int (nI p)), some (.int (nI c))] [] (hp A V O) 0 0 Q := by
  refine R_aload z37_6 rfl ?_
  refine R_get z37_7 (k := 3) (f := 1) (by decide +kernel) rfl rfl ?_
  refine R_get z37_10 (k := 1) (f := 5) (by decide +kernel) rfl rfl ?_
  refine R_iload z37_13 rfl ?_
  refine R_iload z37_14 rfl ?_
  refine R_cs z37_15 (k := 48) (kind := 1) (by decide +kernel) (by decide) rfl rfl (by decide +kernel) (Nat.le_of_ble_eq_true (by rfl)) rfl ?_
  refine s48 (jBk_ret rfl ⟨rfl, rfl⟩ ?_)
  refine R_top (y := nI (16 * p + c)) (npair p c) ?_
  refine R_ild z37_18 (n := 320) (f := A 17) (v := (A 17 (16 * p + c))) rfl (nin (by omega) (by decide)) (by rw [ncl (by omega)]) ?_
  exact R_iret z37_19 (Or.inl (by decide +kernel)) ⟨Nat.zero_le _, Nat.zero_le _⟩ (hQ)
theorem s37 {l : Launch} {E : jEnv} {A : Nat → Nat → Int32} {V : Nat → Int32} {O : Nat → Int64} {Q : jO → List jC → Prop} {p c : Int32} {n r : Nat} (hW : cWf A V n r) (hbad : jbad V p c → Q (.inr "java/lang/IllegalArgumentException") (hp A V O)) (hok : ∀ p2 c2 : Nat, p = nI p2 → c = nI c2 → p2 < 20 → c2 < n → Q (.inl (some (.int (A 17 (16 * p2 + c2))))) (hp A V O)) : GO l E 37 0 [some (.ref 0), some (.int p), some (.int c)] [] (hp A V O) 0 0 Q := by
  refine R_aload z37_0 rfl ?_
  refine R_iload z37_1 rfl ?_
  refine R_iload z37_2 rfl ?_
  refine R_cv z37_3 (k := 45) (by decide +kernel) rfl rfl (by decide +kernel) (Nat.le_of_ble_eq_true (by rfl)) rfl ⟨rfl, trivial⟩ ?_
  refine s45 (fun g1 g2 g3 g4 => jBk_ret rfl ⟨rfl, rfl⟩ ?_) (fun g => jBk_thr rfl ⟨rfl, rfl⟩ (hbad g))
  have hn16 := hW.2.1
  rw [n20] at g2
  rw [hW.1] at g4
  obtain ⟨p2, hp2, rfl⟩ := jnat g1 g2 (by omega)
  obtain ⟨c2, hc2, rfl⟩ := jnat g3 g4 (by omega)
  exact s37_b hW hp2 (by omega) (by omega) (hok p2 c2 rfl rfl hp2 hc2)
theorem s38_b {l : Launch} {E : jEnv} {A : Nat → Nat → Int32} {V : Nat → Int32} {O : Nat → Int64} {Q : jO → List jC → Prop} {p c n r : Nat} (hW : cWf A V n r) (hp2 : p < 20) (hc : c < 16) (hcn : c < n) (hQ : Q (.inl (some (.int (nI (cWhy A V n p c))))) (hp A V O)) : GO l E 38 6 [some (.ref 0), some (.int (nI p)), some (.int (nI c))] [] (hp A V O) 0 0 Q := by
  refine R_aload z38_6 rfl ?_
  refine R_iload z38_7 rfl ?_
  refine R_iload z38_8 rfl ?_
  refine R_cv z38_9 (k := 55) (by decide +kernel) rfl rfl (by decide +kernel) (Nat.le_of_ble_eq_true (by rfl)) rfl ⟨rfl, trivial⟩ ?_
  refine s55 hW hp2 hc (jBk_ret rfl ⟨rfl, rfl⟩ ?_)
  exact R_iret z38_12 (Or.inl (by decide +kernel)) ⟨Nat.zero_le _, Nat.zero_le _⟩ (hQ)
theorem s38 {l : Launch} {E : jEnv} {A : Nat → Nat → Int32} {V : Nat → Int32} {O : Nat → Int64} {Q : jO → List jC → Prop} {p c : Int32} {n r : Nat} (hW : cWf A V n r) (hbad : jbad V p c → Q (.inr "java/lang/IllegalArgumentException") (hp A V O)) (hok : ∀ p2 c2 : Nat, p = nI p2 → c = nI c2 → p2 < 20 → c2 < n → Q (.inl (some (.int (nI (cWhy A V n p2 c2))))) (hp A V O)) : GO l E 38 0 [some (.ref 0), some (.int p), some (.int c)] [] (hp A V O) 0 0 Q := by
  refine R_aload z38_0 rfl ?_
  refine R_iload z38_1 rfl ?_
  refine R_iload z38_2 rfl ?_
  refine R_cv z38_3 (k := 45) (by decide +kernel) rfl rfl (by decide +kernel) (Nat.le_of_ble_eq_true (by rfl)) rfl ⟨rfl, trivial⟩ ?_
  refine s45 (fun g1 g2 g3 g4 => jBk_ret rfl ⟨rfl, rfl⟩ ?_) (fun g => jBk_thr rfl ⟨rfl, rfl⟩ (hbad g))
  have hn16 := hW.2.1
  rw [n20] at g2
  rw [hW.1] at g4
  obtain ⟨p2, hp2, rfl⟩ := jnat g1 g2 (by omega)
  obtain ⟨c2, hc2, rfl⟩ := jnat g3 g4 (by omega)
  exact s38_b hW hp2 (by omega) (by omega) (hok p2 c2 rfl rfl hp2 hc2)
def cHolds (A : Nat → Nat → Int32) (r p c : Nat) (d : Int32) : Prop := d < cLof A (cUp A d r (A 15 (16 * p + c))) c
theorem cUp_pass {A : Nat → Nat → Int32} {V : Nat → Int32} {n r : Nat} (hW : cWf A V n r) {d : Int32} : ∀ (f : Nat) (x : Int32), jpass x r → jpass (cUp A d f x) r
  | 0, x, _ => Or.inl rfl
  | f + 1, x, hx => by
    unfold cUp
    by_cases h1 : x = -1
    · rw [if_pos h1]; exact Or.inl rfl
    · rw [if_neg h1]
      split
      · exact cUp_pass hW f _ (jpass_next hW hx h1)
      · exact hx
theorem s35_b {l : Launch} {E : jEnv} {A : Nat → Nat → Int32} {V : Nat → Int32} {O : Nat → Int64} {Q : jO → List jC → Prop} {d : Int32} {p c n r : Nat} (hW : cWf A V n r) (hp2 : p < 20) (hc : c < 16) (hcn : c < n) (hQ : ((¬ jrg d 0 9999 → Q (.inr "java/lang/IndexOutOfBoundsException") (hp A V O)) ∧ (jrg d 0 9999 → cHolds A r p c d → Q (.inl (some (.int 1))) (hp A V O)) ∧ (jrg d 0 9999 → ¬ cHolds A r p c d → Q (.inl (some (.int 0))) (hp A V O)))) : GO l E 35 6 [some (.ref 0), some (.int (nI p)), some (.int (nI c)), some (.int d)] [] (hp A V O) 0 0 Q := by
  refine R_iload z35_6 rfl ?_
  refine R_iconst z35_7 (v := 0) (by decide) ?_
  refine R_sipush z35_8 (v := 9999) (by decide) ?_
  refine R_cs z35_11 (k := 46) (kind := 1) (by decide +kernel) (by decide) rfl rfl (by decide +kernel) (Nat.le_of_ble_eq_true (by rfl)) rfl ?_
  refine s46 (fun g1 g2 => jBk_ret rfl ⟨rfl, rfl⟩ ?_) (fun g => jBk_thr rfl ⟨rfl, rfl⟩ (hQ.1 (fun z => g.elim z.1 (fun y => y z.2))))
  refine R_iload z35_14 rfl ?_
  refine R_aload z35_15 rfl ?_
  refine R_aload z35_16 rfl ?_
  refine R_get z35_17 (k := 3) (f := 1) (by decide +kernel) rfl rfl ?_
  refine R_iload z35_20 rfl ?_
  refine R_iload z35_21 rfl ?_
  refine R_cs z35_22 (k := 48) (kind := 1) (by decide +kernel) (by decide) rfl rfl (by decide +kernel) (Nat.le_of_ble_eq_true (by rfl)) rfl ?_
  refine s48 (jBk_ret rfl ⟨rfl, rfl⟩ ?_)
  refine R_top (y := nI (16 * p + c)) (npair p c) ?_
  refine R_iload z35_25 rfl ?_
  refine R_cv z35_26 (k := 14) (by decide +kernel) rfl rfl (by decide +kernel) (Nat.le_of_ble_eq_true (by rfl)) rfl ⟨rfl, trivial⟩ ?_
  refine s14 hW (by omega) (jBk_ret rfl ⟨rfl, rfl⟩ ?_)
  refine R_iload z35_29 rfl ?_
  refine R_cv z35_30 (k := 53) (by decide +kernel) rfl rfl (by decide +kernel) (Nat.le_of_ble_eq_true (by rfl)) rfl ⟨rfl, trivial⟩ ?_
  refine s53 (cUp_pass hW r _ (hW.2.2.2.2.1 _ (by omega))) hW.2.2.2.1 hc (jBk_ret rfl ⟨rfl, rfl⟩ ?_)
  refine R_icmp z35_33 (tn := 40) rfl (fun (h33 : ((cLof A (cUp A d r (A 15 (16 * p + c))) c) : Int32) ≤ d) => ?_) (fun (h33 : ¬ ((cLof A (cUp A d r (A 15 (16 * p + c))) c) : Int32) ≤ d) => ?_)
  · refine R_iconst z35_40 (v := 0) (by decide) ?_
    exact R_iret z35_41 (Or.inr (by decide)) ⟨Nat.zero_le _, Nat.zero_le _⟩ (hQ.2.2 ⟨g1, g2⟩ (fun z => absurd h33 (Int32.not_le.mpr z)))
  · refine R_iconst z35_36 (v := 1) (by decide) ?_
    refine R_goto z35_37 (tn := 41) rfl ?_
    exact R_iret z35_41 (Or.inr (by decide)) ⟨Nat.zero_le _, Nat.zero_le _⟩ (hQ.2.1 ⟨g1, g2⟩ (Int32.not_le.mp h33))
theorem s35 {l : Launch} {E : jEnv} {A : Nat → Nat → Int32} {V : Nat → Int32} {O : Nat → Int64} {Q : jO → List jC → Prop} {p c d : Int32} {n r : Nat} (hW : cWf A V n r) (hbad : jbad V p c → Q (.inr "java/lang/IllegalArgumentException") (hp A V O)) (hok : ∀ p2 c2 : Nat, p = nI p2 → c = nI c2 → p2 < 20 → c2 < n → ((¬ jrg d 0 9999 → Q (.inr "java/lang/IndexOutOfBoundsException") (hp A V O)) ∧ (jrg d 0 9999 → cHolds A r p2 c2 d → Q (.inl (some (.int 1))) (hp A V O)) ∧ (jrg d 0 9999 → ¬ cHolds A r p2 c2 d → Q (.inl (some (.int 0))) (hp A V O)))) : GO l E 35 0 [some (.ref 0), some (.int p), some (.int c), some (.int d)] [] (hp A V O) 0 0 Q := by
  refine R_aload z35_0 rfl ?_
  refine R_iload z35_1 rfl ?_
  refine R_iload z35_2 rfl ?_
  refine R_cv z35_3 (k := 45) (by decide +kernel) rfl rfl (by decide +kernel) (Nat.le_of_ble_eq_true (by rfl)) rfl ⟨rfl, trivial⟩ ?_
  refine s45 (fun g1 g2 g3 g4 => jBk_ret rfl ⟨rfl, rfl⟩ ?_) (fun g => jBk_thr rfl ⟨rfl, rfl⟩ (hbad g))
  have hn16 := hW.2.1
  rw [n20] at g2
  rw [hW.1] at g4
  obtain ⟨p2, hp2, rfl⟩ := jnat g1 g2 (by omega)
  obtain ⟨c2, hc2, rfl⟩ := jnat g3 g4 (by omega)
  exact s35_b hW hp2 (by omega) (by omega) (hok p2 c2 rfl rfl hp2 hc2)
theorem s34_b {l : Launch} {E : jEnv} {A : Nat → Nat → Int32} {V : Nat → Int32} {O : Nat → Int64} {Q : jO → List jC → Prop} (h00 : ¬ V 0 < 0) {p c n r : Nat} (hW : cWf A V n r) (hp2 : p < 20) (hc : c < 16) (hcn : c < n) (hQ : ((¬ cHold A V p c → Q (.inr "java/lang/IllegalStateException") (hp A V O)) ∧ (cHold A V p c → ∀ k, k < r → A 15 (16 * p + c) = nI k → Q (.inl (some (.int (cUse A (16 * p + c) k (V 0) (A 4 c) 14 k)))) (hp (cUse A (16 * p + c) k (V 0) (A 4 c)) V O)))) : GO l E 34 6 [some (.ref 0), some (.int (nI p)), some (.int (nI c))] [] (hp A V O) 0 0 Q := by
  refine R_aload z34_6 rfl ?_
  refine R_iload z34_7 rfl ?_
  refine R_iload z34_8 rfl ?_
  refine R_cv z34_9 (k := 54) (by decide +kernel) rfl rfl (by decide +kernel) (Nat.le_of_ble_eq_true (by rfl)) rfl ⟨rfl, trivial⟩ ?_
  refine s54 hW hp2 hc (fun g => jBk_ret rfl ⟨rfl, rfl⟩ ?_) (fun g => jBk_ret rfl ⟨rfl, rfl⟩ ?_)
  · refine R_if z34_12 (tn := 25) rfl (fun _ => ?_) (fun q => absurd (show ¬ (1 : Int32) = 0 by decide) q)
    obtain ⟨k, hk, ek⟩ : ∃ k, k < r ∧ A 15 (16 * p + c) = nI k := by
      rcases hW.2.2.2.2.1 (16 * p + c) (by omega) with e | e
      · exact absurd (show V 0 < -1 by have g9 := g; unfold cHold cLap cLof at g9; rw [if_pos e] at g9; exact g9) (fun z => h00 (Int32.lt_trans z (by decide)))
      · exact e
    refine R_aload z34_25 rfl ?_
    refine R_get z34_26 (k := 3) (f := 1) (by decide +kernel) rfl rfl ?_
    refine R_iload z34_29 rfl ?_
    refine R_iload z34_30 rfl ?_
    refine R_cs z34_31 (k := 48) (kind := 1) (by decide +kernel) (by decide) rfl rfl (by decide +kernel) (Nat.le_of_ble_eq_true (by rfl)) rfl ?_
    refine s48 (jBk_ret rfl ⟨rfl, rfl⟩ ?_)
    refine R_top (y := nI (16 * p + c)) (npair p c) ?_
    refine R_aload z34_34 rfl ?_
    refine R_get z34_35 (k := 3) (f := 3) (by decide +kernel) rfl rfl ?_
    refine R_aload z34_38 rfl ?_
    refine R_get z34_39 (k := 3) (f := 0) (by decide +kernel) rfl rfl ?_
    refine R_get z34_42 (k := 0) (f := 2) (by decide +kernel) rfl rfl ?_
    refine R_iload z34_45 rfl ?_
    refine R_ild z34_46 (n := 16) (f := A 4) (v := (A 4 c)) rfl (nin hc (by decide)) (by rw [ncl (by omega)]) ?_
    refine R_cv z34_47 (k := 13) (by decide +kernel) rfl rfl (by decide +kernel) (Nat.le_of_ble_eq_true (by rfl)) rfl ⟨rfl, trivial⟩ ?_
    refine s13 (by omega) (by have := hW.2.2.2.1; omega) ek (jBk_ret rfl ⟨rfl, rfl⟩ ?_)
    exact R_iret z34_50 (Or.inl (by decide +kernel)) ⟨Nat.zero_le _, Nat.zero_le _⟩ (hQ.2 g k hk ek)
  · refine R_if z34_12 (tn := 25) rfl (fun q => absurd rfl q) (fun _ => ?_)
    exact R_throw z34_15 (q := (64, 127, 68, "java/lang/IllegalStateException", "the person does not hold the course")) (X := "java/lang/IllegalStateException") (by decide +kernel) rfl rfl (by decide +kernel) (by decide +kernel) (hQ.1 g)
theorem s34 {l : Launch} {E : jEnv} {A : Nat → Nat → Int32} {V : Nat → Int32} {O : Nat → Int64} {Q : jO → List jC → Prop} {p c : Int32} {n r : Nat} (h00 : ¬ V 0 < 0) (hW : cWf A V n r) (hbad : jbad V p c → Q (.inr "java/lang/IllegalArgumentException") (hp A V O)) (hok : ∀ p2 c2 : Nat, p = nI p2 → c = nI c2 → p2 < 20 → c2 < n → ((¬ cHold A V p2 c2 → Q (.inr "java/lang/IllegalStateException") (hp A V O)) ∧ (cHold A V p2 c2 → ∀ k, k < r → A 15 (16 * p2 + c2) = nI k → Q (.inl (some (.int (cUse A (16 * p2 + c2) k (V 0) (A 4 c2) 14 k)))) (hp (cUse A (16 * p2 + c2) k (V 0) (A 4 c2)) V O)))) : GO l E 34 0 [some (.ref 0), some (.int p), some (.int c)] [] (hp A V O) 0 0 Q := by
  refine R_aload z34_0 rfl ?_
  refine R_iload z34_1 rfl ?_
  refine R_iload z34_2 rfl ?_
  refine R_cv z34_3 (k := 45) (by decide +kernel) rfl rfl (by decide +kernel) (Nat.le_of_ble_eq_true (by rfl)) rfl ⟨rfl, trivial⟩ ?_
  refine s45 (fun g1 g2 g3 g4 => jBk_ret rfl ⟨rfl, rfl⟩ ?_) (fun g => jBk_thr rfl ⟨rfl, rfl⟩ (hbad g))
  have hn16 := hW.2.1
  rw [n20] at g2
  rw [hW.1] at g4
  obtain ⟨p2, hp2, rfl⟩ := jnat g1 g2 (by omega)
  obtain ⟨c2, hc2, rfl⟩ := jnat g3 g4 (by omega)
  exact s34_b h00 hW hp2 (by omega) (by omega) (hok p2 c2 rfl rfl hp2 hc2)
theorem s32_b {l : Launch} {E : jEnv} {A : Nat → Nat → Int32} {V : Nat → Int32} {O : Nat → Int64} {Q : jO → List jC → Prop} {p c n r : Nat} (hW : cWf A V n r) (hp2 : p < 20) (hc : c < 16) (hcn : c < n) (hQ : ((¬ A 10 c = 0 → Q (.inr "java/lang/IllegalStateException") (hp A V O)) ∧ (A 10 c = 0 → ¬ r < 300 → Q (.inr "java/lang/UnsupportedOperationException") (hp A V O)) ∧ (A 10 c = 0 → r < 300 → Q (.inl (some (.int (nI r)))) (hp (cAddP (cNote A c) (16 * p + c) r (V 0)) (va_up (va_up V 3 (nI (r + 1))) 4 (V 4 + 1)) O)))) : GO l E 32 6 [some (.ref 0), some (.int (nI p)), some (.int (nI c))] [] (hp A V O) 0 0 Q := by
  refine R_aload z32_6 rfl ?_
  refine R_get z32_7 (k := 3) (f := 0) (by decide +kernel) rfl rfl ?_
  refine R_get z32_10 (k := 0) (f := 8) (by decide +kernel) rfl rfl ?_
  refine R_iload z32_13 rfl ?_
  refine R_zld z32_14 (n := 16) (f := A 10) (v := (A 10 c)) rfl (nin hc (by decide)) (by rw [ncl (by omega)]) ?_
  refine R_if z32_15 (tn := 28) rfl (fun (h15 : ((A 10 c) : Int32) = 0) => ?_) (fun (h15 : ¬ ((A 10 c) : Int32) = 0) => ?_)
  · refine R_aload z32_28 rfl ?_
    refine R_cv z32_29 (k := 47) (by decide +kernel) rfl rfl (by decide +kernel) (Nat.le_of_ble_eq_true (by rfl)) rfl ⟨rfl, trivial⟩ ?_
    refine s47 (fun g => jBk_ret rfl ⟨rfl, rfl⟩ ?_) (fun g => jBk_thr rfl ⟨rfl, rfl⟩ (hQ.2.1 h15 (by rw [hW.2.2.1, show (300 : Int32) = nI 300 by decide, nlt (by have := hW.2.2.2.1; omega) (by omega)] at g; exact g)))
    refine R_aload z32_32 rfl ?_
    refine R_iload z32_33 rfl ?_
    refine R_iload z32_34 rfl ?_
    refine R_iconst z32_35 (v := 1) (by decide) ?_
    refine R_cv z32_36 (k := 51) (by decide +kernel) rfl rfl (by decide +kernel) (Nat.le_of_ble_eq_true (by rfl)) rfl ⟨rfl, trivial⟩ ?_
    refine s51p hW.2.2.1 (by rw [hW.2.2.1, show (300 : Int32) = nI 300 by decide, nlt (by have := hW.2.2.2.1; omega) (by omega)] at g; exact g) hp2 hc (jBk_ret rfl ⟨rfl, rfl⟩ ?_)
    exact R_iret z32_39 (Or.inl (by decide +kernel)) ⟨Nat.zero_le _, Nat.zero_le _⟩ (hQ.2.2 h15 (by rw [hW.2.2.1, show (300 : Int32) = nI 300 by decide, nlt (by have := hW.2.2.2.1; omega) (by omega)] at g; exact g))
  · exact R_throw z32_18 (q := (64, 117, 68, "java/lang/IllegalStateException", "the course has a result")) (X := "java/lang/IllegalStateException") (by decide +kernel) rfl rfl (by decide +kernel) (by decide +kernel) (hQ.1 h15)
theorem s32 {l : Launch} {E : jEnv} {A : Nat → Nat → Int32} {V : Nat → Int32} {O : Nat → Int64} {Q : jO → List jC → Prop} {p c : Int32} {n r : Nat} (hW : cWf A V n r) (hbad : jbad V p c → Q (.inr "java/lang/IllegalArgumentException") (hp A V O)) (hok : ∀ p2 c2 : Nat, p = nI p2 → c = nI c2 → p2 < 20 → c2 < n → ((¬ A 10 c2 = 0 → Q (.inr "java/lang/IllegalStateException") (hp A V O)) ∧ (A 10 c2 = 0 → ¬ r < 300 → Q (.inr "java/lang/UnsupportedOperationException") (hp A V O)) ∧ (A 10 c2 = 0 → r < 300 → Q (.inl (some (.int (nI r)))) (hp (cAddP (cNote A c2) (16 * p2 + c2) r (V 0)) (va_up (va_up V 3 (nI (r + 1))) 4 (V 4 + 1)) O)))) : GO l E 32 0 [some (.ref 0), some (.int p), some (.int c)] [] (hp A V O) 0 0 Q := by
  refine R_aload z32_0 rfl ?_
  refine R_iload z32_1 rfl ?_
  refine R_iload z32_2 rfl ?_
  refine R_cv z32_3 (k := 45) (by decide +kernel) rfl rfl (by decide +kernel) (Nat.le_of_ble_eq_true (by rfl)) rfl ⟨rfl, trivial⟩ ?_
  refine s45 (fun g1 g2 g3 g4 => jBk_ret rfl ⟨rfl, rfl⟩ ?_) (fun g => jBk_thr rfl ⟨rfl, rfl⟩ (hbad g))
  have hn16 := hW.2.1
  rw [n20] at g2
  rw [hW.1] at g4
  obtain ⟨p2, hp2, rfl⟩ := jnat g1 g2 (by omega)
  obtain ⟨c2, hc2, rfl⟩ := jnat g3 g4 (by omega)
  exact s32_b hW hp2 (by omega) (by omega) (hok p2 c2 rfl rfl hp2 hc2)
theorem cWhy_lt {A : Nat → Nat → Int32} {V : Nat → Int32} {n p c : Nat} : cWhy A V n p c < 2 ^ 31 := by
  unfold cWhy
  split
  · decide
  · split
    · decide
    · split <;> decide
theorem cWhy_0 {A : Nat → Nat → Int32} {V : Nat → Int32} {n p c : Nat} (h : nI (cWhy A V n p c) = 0) : cWhy A V n p c = 0 := by
  rcases Nat.eq_zero_or_pos (cWhy A V n p c) with e | e
  · exact e
  · exact absurd h (nI_ne0 e cWhy_lt)
theorem cWhy_n {A : Nat → Nat → Int32} {V : Nat → Int32} {n p c : Nat} (h : ¬ nI (cWhy A V n p c) = 0) : ¬ cWhy A V n p c = 0 := fun e => h (by rw [e]; rfl)
theorem s31_b {l : Launch} {E : jEnv} {A : Nat → Nat → Int32} {V : Nat → Int32} {O : Nat → Int64} {Q : jO → List jC → Prop} {mk : Int32} {p c n r : Nat} (hW : cWf A V n r) (hp2 : p < 20) (hc : c < 16) (hcn : c < n) (hQ : ((¬ jrg mk 0 100 → Q (.inr "java/lang/IndexOutOfBoundsException") (hp A V O)) ∧ (jrg mk 0 100 → ¬ cWhy A V n p c = 0 → Q (.inr "java/lang/IllegalStateException") (hp A V O)) ∧ (jrg mk 0 100 → cWhy A V n p c = 0 → (cRoom A V c = 0 ∨ ¬ r < 300) → Q (.inr "java/lang/UnsupportedOperationException") (hp A V O)) ∧ (jrg mk 0 100 → cWhy A V n p c = 0 → ¬ cRoom A V c = 0 → r < 300 → ¬ mk < A 3 c → Q (.inl (some (.int (nI r)))) (hp (cAddP (cNote A c) (16 * p + c) r (V 0)) (va_up (va_up V 3 (nI (r + 1))) 4 (V 4 + 1)) O)) ∧ (jrg mk 0 100 → cWhy A V n p c = 0 → ¬ cRoom A V c = 0 → r < 300 → mk < A 3 c → Q (.inl (some (.int (nI r)))) (hp (cAddF (cNote A c) (16 * p + c) r (V 0)) (va_up V 3 (nI (r + 1))) O)))) : GO l E 31 6 [some (.ref 0), some (.int (nI p)), some (.int (nI c)), some (.int mk)] [] (hp A V O) 0 0 Q := by
  refine R_iload z31_6 rfl ?_
  refine R_iconst z31_7 (v := 0) (by decide) ?_
  refine R_bipush z31_8 (v := 100) (by decide) ?_
  refine R_cs z31_10 (k := 46) (kind := 1) (by decide +kernel) (by decide) rfl rfl (by decide +kernel) (Nat.le_of_ble_eq_true (by rfl)) rfl ?_
  refine s46 (fun g1 g2 => jBk_ret rfl ⟨rfl, rfl⟩ ?_) (fun g => jBk_thr rfl ⟨rfl, rfl⟩ (hQ.1 (fun z => g.elim z.1 (fun y => y z.2))))
  refine R_aload z31_13 rfl ?_
  refine R_iload z31_14 rfl ?_
  refine R_iload z31_15 rfl ?_
  refine R_cv z31_16 (k := 55) (by decide +kernel) rfl rfl (by decide +kernel) (Nat.le_of_ble_eq_true (by rfl)) rfl ⟨rfl, trivial⟩ ?_
  refine s55 hW hp2 hc (jBk_ret rfl ⟨rfl, rfl⟩ ?_)
  refine R_if z31_19 (tn := 32) rfl (fun (h19 : ((nI (cWhy A V n p c)) : Int32) = 0) => ?_) (fun (h19 : ¬ ((nI (cWhy A V n p c)) : Int32) = 0) => ?_)
  · refine R_aload z31_32 rfl ?_
    refine R_iload z31_33 rfl ?_
    refine R_cv z31_34 (k := 57) (by decide +kernel) rfl rfl (by decide +kernel) (Nat.le_of_ble_eq_true (by rfl)) rfl ⟨rfl, trivial⟩ ?_
    refine s57 hW hc (jBk_ret rfl ⟨rfl, rfl⟩ ?_)
    refine R_if z31_37 (tn := 50) rfl (fun (h37 : ¬ ((cRoom A V c) : Int32) = 0) => ?_) (fun (h37 : ¬ (¬ ((cRoom A V c) : Int32) = 0)) => ?_)
    · refine R_aload z31_50 rfl ?_
      refine R_cv z31_51 (k := 47) (by decide +kernel) rfl rfl (by decide +kernel) (Nat.le_of_ble_eq_true (by rfl)) rfl ⟨rfl, trivial⟩ ?_
      refine s47 (fun g => jBk_ret rfl ⟨rfl, rfl⟩ ?_) (fun g => jBk_thr rfl ⟨rfl, rfl⟩ (hQ.2.2.1 ⟨g1, g2⟩ (cWhy_0 h19) (Or.inr (by rw [hW.2.2.1, show (300 : Int32) = nI 300 by decide, nlt (by have := hW.2.2.2.1; omega) (by omega)] at g; exact g))))
      refine R_aload z31_54 rfl ?_
      refine R_iload z31_55 rfl ?_
      refine R_iload z31_56 rfl ?_
      refine R_iload z31_57 rfl ?_
      refine R_aload z31_58 rfl ?_
      refine R_get z31_59 (k := 3) (f := 0) (by decide +kernel) rfl rfl ?_
      refine R_get z31_62 (k := 0) (f := 1) (by decide +kernel) rfl rfl ?_
      refine R_iload z31_65 rfl ?_
      refine R_ild z31_66 (n := 16) (f := A 3) (v := (A 3 c)) rfl (nin hc (by decide)) (by rw [ncl (by omega)]) ?_
      refine R_icmp z31_67 (tn := 74) rfl (fun (h67 : (mk : Int32) < (A 3 c)) => ?_) (fun (h67 : ¬ (mk : Int32) < (A 3 c)) => ?_)
      · refine R_iconst z31_74 (v := 0) (by decide) ?_
        refine R_cv z31_75 (k := 51) (by decide +kernel) rfl rfl (by decide +kernel) (Nat.le_of_ble_eq_true (by rfl)) rfl ⟨rfl, trivial⟩ ?_
        refine s51f hW.2.2.1 (by rw [hW.2.2.1, show (300 : Int32) = nI 300 by decide, nlt (by have := hW.2.2.2.1; omega) (by omega)] at g; exact g) hp2 hc (jBk_ret rfl ⟨rfl, rfl⟩ ?_)
        exact R_iret z31_78 (Or.inl (by decide +kernel)) ⟨Nat.zero_le _, Nat.zero_le _⟩ (hQ.2.2.2.2 ⟨g1, g2⟩ (cWhy_0 h19) h37 (by rw [hW.2.2.1, show (300 : Int32) = nI 300 by decide, nlt (by have := hW.2.2.2.1; omega) (by omega)] at g; exact g) h67)
      · refine R_iconst z31_70 (v := 1) (by decide) ?_
        refine R_goto z31_71 (tn := 75) rfl ?_
        refine R_cv z31_75 (k := 51) (by decide +kernel) rfl rfl (by decide +kernel) (Nat.le_of_ble_eq_true (by rfl)) rfl ⟨rfl, trivial⟩ ?_
        refine s51p hW.2.2.1 (by rw [hW.2.2.1, show (300 : Int32) = nI 300 by decide, nlt (by have := hW.2.2.2.1; omega) (by omega)] at g; exact g) hp2 hc (jBk_ret rfl ⟨rfl, rfl⟩ ?_)
        exact R_iret z31_78 (Or.inl (by decide +kernel)) ⟨Nat.zero_le _, Nat.zero_le _⟩ (hQ.2.2.2.1 ⟨g1, g2⟩ (cWhy_0 h19) h37 (by rw [hW.2.2.1, show (300 : Int32) = nI 300 by decide, nlt (by have := hW.2.2.2.1; omega) (by omega)] at g; exact g) h67)
    · exact R_throw z31_40 (q := (45, 101, 49, "java/lang/UnsupportedOperationException", "the course has no room")) (X := "java/lang/UnsupportedOperationException") (by decide +kernel) rfl rfl (by decide +kernel) (by decide +kernel) (hQ.2.2.1 ⟨g1, g2⟩ (cWhy_0 h19) (Or.inl (Classical.not_not.mp h37)))
  · exact R_throw z31_22 (q := (64, 95, 68, "java/lang/IllegalStateException", "the person is barred")) (X := "java/lang/IllegalStateException") (by decide +kernel) rfl rfl (by decide +kernel) (by decide +kernel) (hQ.2.1 ⟨g1, g2⟩ (cWhy_n h19))
theorem s31 {l : Launch} {E : jEnv} {A : Nat → Nat → Int32} {V : Nat → Int32} {O : Nat → Int64} {Q : jO → List jC → Prop} {p c mk : Int32} {n r : Nat} (hW : cWf A V n r) (hbad : jbad V p c → Q (.inr "java/lang/IllegalArgumentException") (hp A V O)) (hok : ∀ p2 c2 : Nat, p = nI p2 → c = nI c2 → p2 < 20 → c2 < n → ((¬ jrg mk 0 100 → Q (.inr "java/lang/IndexOutOfBoundsException") (hp A V O)) ∧ (jrg mk 0 100 → ¬ cWhy A V n p2 c2 = 0 → Q (.inr "java/lang/IllegalStateException") (hp A V O)) ∧ (jrg mk 0 100 → cWhy A V n p2 c2 = 0 → (cRoom A V c2 = 0 ∨ ¬ r < 300) → Q (.inr "java/lang/UnsupportedOperationException") (hp A V O)) ∧ (jrg mk 0 100 → cWhy A V n p2 c2 = 0 → ¬ cRoom A V c2 = 0 → r < 300 → ¬ mk < A 3 c2 → Q (.inl (some (.int (nI r)))) (hp (cAddP (cNote A c2) (16 * p2 + c2) r (V 0)) (va_up (va_up V 3 (nI (r + 1))) 4 (V 4 + 1)) O)) ∧ (jrg mk 0 100 → cWhy A V n p2 c2 = 0 → ¬ cRoom A V c2 = 0 → r < 300 → mk < A 3 c2 → Q (.inl (some (.int (nI r)))) (hp (cAddF (cNote A c2) (16 * p2 + c2) r (V 0)) (va_up V 3 (nI (r + 1))) O)))) : GO l E 31 0 [some (.ref 0), some (.int p), some (.int c), some (.int mk)] [] (hp A V O) 0 0 Q := by
  refine R_aload z31_0 rfl ?_
  refine R_iload z31_1 rfl ?_
  refine R_iload z31_2 rfl ?_
  refine R_cv z31_3 (k := 45) (by decide +kernel) rfl rfl (by decide +kernel) (Nat.le_of_ble_eq_true (by rfl)) rfl ⟨rfl, trivial⟩ ?_
  refine s45 (fun g1 g2 g3 g4 => jBk_ret rfl ⟨rfl, rfl⟩ ?_) (fun g => jBk_thr rfl ⟨rfl, rfl⟩ (hbad g))
  have hn16 := hW.2.1
  rw [n20] at g2
  rw [hW.1] at g4
  obtain ⟨p2, hp2, rfl⟩ := jnat g1 g2 (by omega)
  obtain ⟨c2, hc2, rfl⟩ := jnat g3 g4 (by omega)
  exact s31_b hW hp2 (by omega) (by omega) (hok p2 c2 rfl rfl hp2 hc2)

theorem s48 {l : Launch} {E : jEnv} {A : Nat → Nat → Int32} {V : Nat → Int32} {O : Nat → Int64} {Q : jO → List jC → Prop} {p c : Int32} (hQ : Q (.inl (some (.int (p * 16 + c)))) (hp A V O)) : GO l E 48 0 [some (.int p), some (.int c)] [] (hp A V O) 0 0 Q := by
  refine R_iload z48_0 rfl ?_
  refine R_bipush z48_1 (v := 16) (by decide) ?_
  refine R_imul z48_3 ?_
  refine R_iload z48_4 rfl ?_
  refine R_iadd z48_5 ?_
  exact R_iret z48_6 (Or.inl (by decide +kernel)) ⟨Nat.zero_le _, Nat.zero_le _⟩ (hQ)
abbrev jbit (x m : Int32) : Prop := ¬ (x >>> (m &&& 31)) &&& 1 = 0
theorem s49 {l : Launch} {E : jEnv} {A : Nat → Nat → Int32} {V : Nat → Int32} {O : Nat → Int64} {Q : jO → List jC → Prop} {x m : Int32} (h1 : jbit x m → Q (.inl (some (.int 1))) (hp A V O)) (h0 : ¬ jbit x m → Q (.inl (some (.int 0))) (hp A V O)) : GO l E 49 0 [some (.int x), some (.int m)] [] (hp A V O) 0 0 Q := by
  refine R_iload z49_0 rfl ?_
  refine R_iload z49_1 rfl ?_
  refine R_ishr z49_2 ?_
  refine R_iconst z49_3 (v := 1) (by decide) ?_
  refine R_iand z49_4 ?_
  refine R_if z49_5 (tn := 12) rfl (fun (h5 : (((x >>> (m &&& 31)) &&& 1) : Int32) = 0) => ?_) (fun (h5 : ¬ (((x >>> (m &&& 31)) &&& 1) : Int32) = 0) => ?_)
  · refine R_iconst z49_12 (v := 0) (by decide) ?_
    exact R_iret z49_13 (Or.inr (by decide)) ⟨Nat.zero_le _, Nat.zero_le _⟩ (h0 (fun z => z h5))
  · refine R_iconst z49_8 (v := 1) (by decide) ?_
    refine R_goto z49_9 (tn := 13) rfl ?_
    exact R_iret z49_13 (Or.inr (by decide)) ⟨Nat.zero_le _, Nat.zero_le _⟩ (h1 h5)
theorem s44 {l : Launch} {E : jEnv} {A : Nat → Nat → Int32} {V : Nat → Int32} {O : Nat → Int64} {Q : jO → List jC → Prop} {c : Int32} (hA : ¬ c < 0 → c < V 2 → Q (.inl none) (hp A V O)) (h0 : (c < 0 ∨ ¬ c < V 2) → Q (.inr "java/lang/IllegalArgumentException") (hp A V O)) : GO l E 44 0 [some (.ref 0), some (.int c)] [] (hp A V O) 0 0 Q := by
  refine R_iload z44_0 rfl ?_
  refine R_if z44_1 (tn := 15) rfl (fun (h1 : (c : Int32) < 0) => ?_) (fun (h1 : ¬ (c : Int32) < 0) => ?_)
  · exact R_throw z44_15 (q := (175, 202, 179, "java/lang/IllegalArgumentException", "no such course")) (X := "java/lang/IllegalArgumentException") (by decide +kernel) rfl rfl (by decide +kernel) (by decide +kernel) (h0 (Or.inl h1))
  · refine R_iload z44_4 rfl ?_
    refine R_aload z44_5 rfl ?_
    refine R_get z44_6 (k := 3) (f := 0) (by decide +kernel) rfl rfl ?_
    refine R_get z44_9 (k := 0) (f := 9) (by decide +kernel) rfl rfl ?_
    refine R_icmp z44_12 (tn := 25) rfl (fun (h12 : (c : Int32) < (V 2)) => ?_) (fun (h12 : ¬ (c : Int32) < (V 2)) => ?_)
    · exact R_vret z44_25 ⟨Nat.zero_le _, Nat.zero_le _⟩ (hA h1 h12)
    · exact R_throw z44_15 (q := (175, 202, 179, "java/lang/IllegalArgumentException", "no such course")) (X := "java/lang/IllegalArgumentException") (by decide +kernel) rfl rfl (by decide +kernel) (by decide +kernel) (h0 (Or.inr h12))
theorem s46 {l : Launch} {E : jEnv} {A : Nat → Nat → Int32} {V : Nat → Int32} {O : Nat → Int64} {Q : jO → List jC → Prop} {n a b : Int32} (hA : ¬ n < a → n ≤ b → Q (.inl none) (hp A V O)) (h0 : (n < a ∨ ¬ n ≤ b) → Q (.inr "java/lang/IndexOutOfBoundsException") (hp A V O)) : GO l E 46 0 [some (.int n), some (.int a), some (.int b)] [] (hp A V O) 0 0 Q := by
  refine R_iload z46_0 rfl ?_
  refine R_iload z46_1 rfl ?_
  refine R_icmp z46_2 (tn := 10) rfl (fun (h2 : (n : Int32) < a) => ?_) (fun (h2 : ¬ (n : Int32) < a) => ?_)
  · exact R_throw z46_10 (q := (183, 206, 187, "java/lang/IndexOutOfBoundsException", "a number is outside its range")) (X := "java/lang/IndexOutOfBoundsException") (by decide +kernel) rfl rfl (by decide +kernel) (by decide +kernel) (h0 (Or.inl h2))
  · refine R_iload z46_5 rfl ?_
    refine R_iload z46_6 rfl ?_
    refine R_icmp z46_7 (tn := 20) rfl (fun (h7 : (n : Int32) ≤ b) => ?_) (fun (h7 : ¬ (n : Int32) ≤ b) => ?_)
    · exact R_vret z46_20 ⟨Nat.zero_le _, Nat.zero_le _⟩ (hA h2 h7)
    · exact R_throw z46_10 (q := (183, 206, 187, "java/lang/IndexOutOfBoundsException", "a number is outside its range")) (X := "java/lang/IndexOutOfBoundsException") (by decide +kernel) rfl rfl (by decide +kernel) (by decide +kernel) (h0 (Or.inr h7))
theorem s45 {l : Launch} {E : jEnv} {A : Nat → Nat → Int32} {V : Nat → Int32} {O : Nat → Int64} {Q : jO → List jC → Prop} {p c : Int32} (hA : ¬ p < 0 → p < 20 → ¬ c < 0 → c < V 2 → Q (.inl none) (hp A V O)) (h0 : (p < 0 ∨ ¬ p < 20 ∨ c < 0 ∨ ¬ c < V 2) → Q (.inr "java/lang/IllegalArgumentException") (hp A V O)) : GO l E 45 0 [some (.ref 0), some (.int p), some (.int c)] [] (hp A V O) 0 0 Q := by
  refine R_iload z45_0 rfl ?_
  refine R_if z45_1 (tn := 10) rfl (fun (h1 : (p : Int32) < 0) => ?_) (fun (h1 : ¬ (p : Int32) < 0) => ?_)
  · exact R_throw z45_10 (q := (175, 204, 179, "java/lang/IllegalArgumentException", "no such person")) (X := "java/lang/IllegalArgumentException") (by decide +kernel) rfl rfl (by decide +kernel) (by decide +kernel) (h0 (Or.inl h1))
  · refine R_iload z45_4 rfl ?_
    refine R_bipush z45_5 (v := 20) (by decide) ?_
    refine R_icmp z45_7 (tn := 20) rfl (fun (h7 : (p : Int32) < 20) => ?_) (fun (h7 : ¬ (p : Int32) < 20) => ?_)
    · refine R_aload z45_20 rfl ?_
      refine R_iload z45_21 rfl ?_
      refine R_cv z45_22 (k := 44) (by decide +kernel) rfl rfl (by decide +kernel) (Nat.le_of_ble_eq_true (by rfl)) rfl ⟨rfl, trivial⟩ ?_
      refine s44 (fun g1 g2 => jBk_ret rfl ⟨rfl, rfl⟩ ?_) (fun g => jBk_thr rfl ⟨rfl, rfl⟩ (h0 (Or.inr (Or.inr g))))
      exact R_vret z45_25 ⟨Nat.zero_le _, Nat.zero_le _⟩ (hA h1 h7 g1 g2)
    · exact R_throw z45_10 (q := (175, 204, 179, "java/lang/IllegalArgumentException", "no such person")) (X := "java/lang/IllegalArgumentException") (by decide +kernel) rfl rfl (by decide +kernel) (by decide +kernel) (h0 (Or.inr (Or.inl h7)))
theorem s4 {l : Launch} {E : jEnv} {A : Nat → Nat → Int32} {V : Nat → Int32} {O : Nat → Int64} {Q : jO → List jC → Prop} (h1 : ¬ V 2 < 16 → Q (.inl (some (.int 1))) (hp A V O)) (h0 : V 2 < 16 → Q (.inl (some (.int 0))) (hp A V O)) : GO l E 4 0 [some (.ref 1)] [] (hp A V O) 0 0 Q := by
  refine R_aload z4_0 rfl ?_
  refine R_get z4_1 (k := 0) (f := 9) (by decide +kernel) rfl rfl ?_
  refine R_bipush z4_4 (v := 16) (by decide) ?_
  refine R_icmp z4_6 (tn := 13) rfl (fun (h6 : ((V 2) : Int32) < 16) => ?_) (fun (h6 : ¬ ((V 2) : Int32) < 16) => ?_)
  · refine R_iconst z4_13 (v := 0) (by decide) ?_
    exact R_iret z4_14 (Or.inr (by decide)) ⟨Nat.zero_le _, Nat.zero_le _⟩ (h0 h6)
  · refine R_iconst z4_9 (v := 1) (by decide) ?_
    refine R_goto z4_10 (tn := 14) rfl ?_
    exact R_iret z4_14 (Or.inr (by decide)) ⟨Nat.zero_le _, Nat.zero_le _⟩ (h1 h6)
theorem s11 {l : Launch} {E : jEnv} {A : Nat → Nat → Int32} {V : Nat → Int32} {O : Nat → Int64} {Q : jO → List jC → Prop} (h1 : ¬ V 3 < 300 → Q (.inl (some (.int 1))) (hp A V O)) (h0 : V 3 < 300 → Q (.inl (some (.int 0))) (hp A V O)) : GO l E 11 0 [some (.ref 11)] [] (hp A V O) 0 0 Q := by
  refine R_aload z11_0 rfl ?_
  refine R_get z11_1 (k := 1) (f := 7) (by decide +kernel) rfl rfl ?_
  refine R_sipush z11_4 (v := 300) (by decide) ?_
  refine R_icmp z11_7 (tn := 14) rfl (fun (h7 : ((V 3) : Int32) < 300) => ?_) (fun (h7 : ¬ ((V 3) : Int32) < 300) => ?_)
  · refine R_iconst z11_14 (v := 0) (by decide) ?_
    exact R_iret z11_15 (Or.inr (by decide)) ⟨Nat.zero_le _, Nat.zero_le _⟩ (h0 h7)
  · refine R_iconst z11_10 (v := 1) (by decide) ?_
    refine R_goto z11_11 (tn := 15) rfl ?_
    exact R_iret z11_15 (Or.inr (by decide)) ⟨Nat.zero_le _, Nat.zero_le _⟩ (h1 h7)
theorem s47 {l : Launch} {E : jEnv} {A : Nat → Nat → Int32} {V : Nat → Int32} {O : Nat → Int64} {Q : jO → List jC → Prop} (hA : V 3 < 300 → Q (.inl none) (hp A V O)) (h0 : ¬ V 3 < 300 → Q (.inr "java/lang/UnsupportedOperationException") (hp A V O)) : GO l E 47 0 [some (.ref 0)] [] (hp A V O) 0 0 Q := by
  refine R_aload z47_0 rfl ?_
  refine R_get z47_1 (k := 3) (f := 1) (by decide +kernel) rfl rfl ?_
  refine R_cv z47_4 (k := 11) (by decide +kernel) rfl rfl (by decide +kernel) (Nat.le_of_ble_eq_true (by rfl)) rfl ⟨rfl, trivial⟩ ?_
  refine s11 (fun g => jBk_ret rfl ⟨rfl, rfl⟩ ?_) (fun g => jBk_ret rfl ⟨rfl, rfl⟩ ?_)
  · refine R_if z47_7 (tn := 20) rfl (fun q => absurd q (show ¬ (1 : Int32) = 0 by decide)) (fun (h7 : ¬ (1 : Int32) = 0) => ?_)
    exact R_throw z47_10 (q := (45, 209, 49, "java/lang/UnsupportedOperationException", "no room for one more result")) (X := "java/lang/UnsupportedOperationException") (by decide +kernel) rfl rfl (by decide +kernel) (by decide +kernel) (h0 g)
  · refine R_if z47_7 (tn := 20) rfl (fun h7 => ?_) (fun h7 => ?_)
    · exact R_vret z47_20 ⟨Nat.zero_le _, Nat.zero_le _⟩ (hA g)
    · exact absurd rfl h7

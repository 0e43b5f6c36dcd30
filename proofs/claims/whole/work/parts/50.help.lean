def h100 (Q : jO → List jC → Prop) : jO → List jC → Prop := fun o h => ∃ (A : Nat → Nat → Int32) (V : Nat → Int32) (O : Nat → Int64), h = hp A V O ∧ ((∃ v : Int32, o = .inl (some (.int v)) ∧ Q (.inl (some (.int 0))) (hp A V (vp_updL O 0 v.toInt64))) ∨ (o = .inr "java/lang/IndexOutOfBoundsException" ∧ Q (.inl (some (.int 1))) (hp A V O)) ∨ (o = .inr "java/lang/UnsupportedOperationException" ∧ Q (.inl (some (.int 2))) (hp A V O)))
theorem t100 {l : Launch} {E : jEnv} {A : Nat → Nat → Int32} {V : Nat → Int32} {O : Nat → Int64} {Q : jO → List jC → Prop} {x1 : Int32} {x2 : Int32} {x3 : Int32} (hg : GO l E 26 0 [some (.ref 0), some (.int x1), some (.int x2), some (.int x3)] [] (hp A V O) 0 0 (h100 Q)) : GO l E 100 0 [some (.ref 0), some (.int x1), some (.int x2), some (.int x3), some (.ref 45), none] [] (hp A V O) 0 0 Q := by
  refine R_aload z100_0 rfl ?_
  refine R_iconst z100_2 (v := 0) (by decide) ?_
  refine R_aload z100_3 rfl ?_
  refine R_iload z100_4 rfl ?_
  refine R_iload z100_5 rfl ?_
  refine R_iload z100_6 rfl ?_
  refine R_cv z100_7 (k := 26) (by decide +kernel) rfl rfl (by decide +kernel) (Nat.le_of_ble_eq_true (by rfl)) rfl ⟨rfl, trivial⟩ ?_
  refine GO_imp (fun o h' hh => ?_) hg
  obtain ⟨A2, V2, O2, rfl, hm⟩ := hh
  rcases hm with ⟨v, rfl, hm⟩ | ⟨rfl, hm⟩ | ⟨rfl, hm⟩
  · refine jBk_ret rfl ⟨rfl, rfl⟩ ?_
    refine R_i2l z100_10 ?_
    refine R_lst z100_11 (n := 1) (f := O2) (h' := hp A2 V2 (vp_updL O2 0 (v).toInt64)) rfl (show vp_in (nI 0) 1 from nin (by decide) (by decide)) rfl ?_
    refine R_goto z100_12 (tn := 23) rfl ?_
    refine R_iconst z100_23 (v := 0) (by decide) ?_
    exact R_iret z100_24 (Or.inl (by decide +kernel)) ⟨Nat.zero_le _, Nat.zero_le _⟩ (hm)
  · refine jBk_cat rfl (q := 15) (by decide +kernel) z100_15 rfl rfl rfl rfl ?_
    refine R_iconst z100_17 (v := 1) (by decide) ?_
    exact R_iret z100_18 (Or.inl (by decide +kernel)) ⟨Nat.le_of_ble_eq_true rfl, Nat.le_of_ble_eq_true rfl⟩ (hm)
  · refine jBk_cat rfl (q := 19) (by decide +kernel) z100_19 rfl rfl rfl rfl ?_
    refine R_iconst z100_21 (v := 2) (by decide) ?_
    exact R_iret z100_22 (Or.inl (by decide +kernel)) ⟨Nat.le_of_ble_eq_true rfl, Nat.le_of_ble_eq_true rfl⟩ (hm)
def h101 (Q : jO → List jC → Prop) : jO → List jC → Prop := fun o h => ∃ (A : Nat → Nat → Int32) (V : Nat → Int32) (O : Nat → Int64), h = hp A V O ∧ ((o = .inl none ∧ Q (.inl (some (.int 0))) (hp A V O)) ∨ (o = .inr "java/lang/IllegalArgumentException" ∧ Q (.inl (some (.int 1))) (hp A V O)) ∨ (o = .inr "java/lang/IllegalStateException" ∧ Q (.inl (some (.int 2))) (hp A V O)))
theorem t101 {l : Launch} {E : jEnv} {A : Nat → Nat → Int32} {V : Nat → Int32} {O : Nat → Int64} {Q : jO → List jC → Prop} {x1 : Int32} {x2 : Int32} (hg : GO l E 27 0 [some (.ref 0), some (.int x1), some (.int x2)] [] (hp A V O) 0 0 (h101 Q)) : GO l E 101 0 [some (.ref 0), some (.int x1), some (.int x2), none] [] (hp A V O) 0 0 Q := by
  refine R_aload z101_0 rfl ?_
  refine R_iload z101_1 rfl ?_
  refine R_iload z101_2 rfl ?_
  refine R_cv z101_3 (k := 27) (by decide +kernel) rfl rfl (by decide +kernel) (Nat.le_of_ble_eq_true (by rfl)) rfl ⟨rfl, trivial⟩ ?_
  refine GO_imp (fun o h' hh => ?_) hg
  obtain ⟨A2, V2, O2, rfl, hm⟩ := hh
  rcases hm with ⟨rfl, hm⟩ | ⟨rfl, hm⟩ | ⟨rfl, hm⟩
  · refine jBk_ret rfl ⟨rfl, rfl⟩ ?_
    refine R_goto z101_6 (tn := 15) rfl ?_
    refine R_iconst z101_15 (v := 0) (by decide) ?_
    exact R_iret z101_16 (Or.inl (by decide +kernel)) ⟨Nat.zero_le _, Nat.zero_le _⟩ (hm)
  · refine jBk_cat rfl (q := 9) (by decide +kernel) z101_9 rfl rfl rfl rfl ?_
    refine R_iconst z101_10 (v := 1) (by decide) ?_
    exact R_iret z101_11 (Or.inl (by decide +kernel)) ⟨Nat.le_of_ble_eq_true rfl, Nat.le_of_ble_eq_true rfl⟩ (hm)
  · refine jBk_cat rfl (q := 12) (by decide +kernel) z101_12 rfl rfl rfl rfl ?_
    refine R_iconst z101_13 (v := 2) (by decide) ?_
    exact R_iret z101_14 (Or.inl (by decide +kernel)) ⟨Nat.le_of_ble_eq_true rfl, Nat.le_of_ble_eq_true rfl⟩ (hm)
def h102 (Q : jO → List jC → Prop) : jO → List jC → Prop := fun o h => ∃ (A : Nat → Nat → Int32) (V : Nat → Int32) (O : Nat → Int64), h = hp A V O ∧ ((o = .inl none ∧ Q (.inl (some (.int 0))) (hp A V O)) ∨ (o = .inr "java/lang/IndexOutOfBoundsException" ∧ Q (.inl (some (.int 1))) (hp A V O)))
theorem t102 {l : Launch} {E : jEnv} {A : Nat → Nat → Int32} {V : Nat → Int32} {O : Nat → Int64} {Q : jO → List jC → Prop} {x1 : Int32} (hg : GO l E 28 0 [some (.ref 0), some (.int x1)] [] (hp A V O) 0 0 (h102 Q)) : GO l E 102 0 [some (.ref 0), some (.int x1), none] [] (hp A V O) 0 0 Q := by
  refine R_aload z102_0 rfl ?_
  refine R_iload z102_1 rfl ?_
  refine R_cv z102_2 (k := 28) (by decide +kernel) rfl rfl (by decide +kernel) (Nat.le_of_ble_eq_true (by rfl)) rfl ⟨rfl, trivial⟩ ?_
  refine GO_imp (fun o h' hh => ?_) hg
  obtain ⟨A2, V2, O2, rfl, hm⟩ := hh
  rcases hm with ⟨rfl, hm⟩ | ⟨rfl, hm⟩
  · refine jBk_ret rfl ⟨rfl, rfl⟩ ?_
    refine R_goto z102_5 (tn := 11) rfl ?_
    refine R_iconst z102_11 (v := 0) (by decide) ?_
    exact R_iret z102_12 (Or.inl (by decide +kernel)) ⟨Nat.zero_le _, Nat.zero_le _⟩ (hm)
  · refine jBk_cat rfl (q := 8) (by decide +kernel) z102_8 rfl rfl rfl rfl ?_
    refine R_iconst z102_9 (v := 1) (by decide) ?_
    exact R_iret z102_10 (Or.inl (by decide +kernel)) ⟨Nat.le_of_ble_eq_true rfl, Nat.le_of_ble_eq_true rfl⟩ (hm)
def h103 (Q : jO → List jC → Prop) : jO → List jC → Prop := fun o h => ∃ (A : Nat → Nat → Int32) (V : Nat → Int32) (O : Nat → Int64), h = hp A V O ∧ ((o = .inl none ∧ Q (.inl (some (.int 0))) (hp A V O)) ∨ (o = .inr "java/lang/IndexOutOfBoundsException" ∧ Q (.inl (some (.int 1))) (hp A V O)))
theorem t103 {l : Launch} {E : jEnv} {A : Nat → Nat → Int32} {V : Nat → Int32} {O : Nat → Int64} {Q : jO → List jC → Prop} {x1 : Int32} (hg : GO l E 29 0 [some (.ref 0), some (.int x1)] [] (hp A V O) 0 0 (h103 Q)) : GO l E 103 0 [some (.ref 0), some (.int x1), none] [] (hp A V O) 0 0 Q := by
  refine R_aload z103_0 rfl ?_
  refine R_iload z103_1 rfl ?_
  refine R_cv z103_2 (k := 29) (by decide +kernel) rfl rfl (by decide +kernel) (Nat.le_of_ble_eq_true (by rfl)) rfl ⟨rfl, trivial⟩ ?_
  refine GO_imp (fun o h' hh => ?_) hg
  obtain ⟨A2, V2, O2, rfl, hm⟩ := hh
  rcases hm with ⟨rfl, hm⟩ | ⟨rfl, hm⟩
  · refine jBk_ret rfl ⟨rfl, rfl⟩ ?_
    refine R_goto z103_5 (tn := 11) rfl ?_
    refine R_iconst z103_11 (v := 0) (by decide) ?_
    exact R_iret z103_12 (Or.inl (by decide +kernel)) ⟨Nat.zero_le _, Nat.zero_le _⟩ (hm)
  · refine jBk_cat rfl (q := 8) (by decide +kernel) z103_8 rfl rfl rfl rfl ?_
    refine R_iconst z103_9 (v := 1) (by decide) ?_
    exact R_iret z103_10 (Or.inl (by decide +kernel)) ⟨Nat.le_of_ble_eq_true rfl, Nat.le_of_ble_eq_true rfl⟩ (hm)
def h104 (Q : jO → List jC → Prop) : jO → List jC → Prop := fun o h => ∃ (A : Nat → Nat → Int32) (V : Nat → Int32) (O : Nat → Int64), h = hp A V O ∧ ((o = .inl none ∧ Q (.inl (some (.int 0))) (hp A V O)) ∨ (o = .inr "java/lang/IllegalArgumentException" ∧ Q (.inl (some (.int 1))) (hp A V O)) ∨ (o = .inr "java/lang/IndexOutOfBoundsException" ∧ Q (.inl (some (.int 2))) (hp A V O)))
theorem t104 {l : Launch} {E : jEnv} {A : Nat → Nat → Int32} {V : Nat → Int32} {O : Nat → Int64} {Q : jO → List jC → Prop} {x1 : Int32} {x2 : Int32} (hg : GO l E 30 0 [some (.ref 0), some (.int x1), some (.int x2)] [] (hp A V O) 0 0 (h104 Q)) : GO l E 104 0 [some (.ref 0), some (.int x1), some (.int x2), none] [] (hp A V O) 0 0 Q := by
  refine R_aload z104_0 rfl ?_
  refine R_iload z104_1 rfl ?_
  refine R_iload z104_2 rfl ?_
  refine R_cv z104_3 (k := 30) (by decide +kernel) rfl rfl (by decide +kernel) (Nat.le_of_ble_eq_true (by rfl)) rfl ⟨rfl, trivial⟩ ?_
  refine GO_imp (fun o h' hh => ?_) hg
  obtain ⟨A2, V2, O2, rfl, hm⟩ := hh
  rcases hm with ⟨rfl, hm⟩ | ⟨rfl, hm⟩ | ⟨rfl, hm⟩
  · refine jBk_ret rfl ⟨rfl, rfl⟩ ?_
    refine R_goto z104_6 (tn := 15) rfl ?_
    refine R_iconst z104_15 (v := 0) (by decide) ?_
    exact R_iret z104_16 (Or.inl (by decide +kernel)) ⟨Nat.zero_le _, Nat.zero_le _⟩ (hm)
  · refine jBk_cat rfl (q := 9) (by decide +kernel) z104_9 rfl rfl rfl rfl ?_
    refine R_iconst z104_10 (v := 1) (by decide) ?_
    exact R_iret z104_11 (Or.inl (by decide +kernel)) ⟨Nat.le_of_ble_eq_true rfl, Nat.le_of_ble_eq_true rfl⟩ (hm)
  · refine jBk_cat rfl (q := 12) (by decide +kernel) z104_12 rfl rfl rfl rfl ?_
    refine R_iconst z104_13 (v := 2) (by decide) ?_
    exact R_iret z104_14 (Or.inl (by decide +kernel)) ⟨Nat.le_of_ble_eq_true rfl, Nat.le_of_ble_eq_true rfl⟩ (hm)
def h105 (Q : jO → List jC → Prop) : jO → List jC → Prop := fun o h => ∃ (A : Nat → Nat → Int32) (V : Nat → Int32) (O : Nat → Int64), h = hp A V O ∧ ((∃ v : Int32, o = .inl (some (.int v)) ∧ Q (.inl (some (.int 0))) (hp A V (vp_updL O 0 v.toInt64))) ∨ (o = .inr "java/lang/IllegalArgumentException" ∧ Q (.inl (some (.int 1))) (hp A V O)) ∨ (o = .inr "java/lang/IndexOutOfBoundsException" ∧ Q (.inl (some (.int 2))) (hp A V O)) ∨ (o = .inr "java/lang/IllegalStateException" ∧ Q (.inl (some (.int 3))) (hp A V O)) ∨ (o = .inr "java/lang/UnsupportedOperationException" ∧ Q (.inl (some (.int 4))) (hp A V O)))
theorem t105 {l : Launch} {E : jEnv} {A : Nat → Nat → Int32} {V : Nat → Int32} {O : Nat → Int64} {Q : jO → List jC → Prop} {x1 : Int32} {x2 : Int32} {x3 : Int32} (hg : GO l E 31 0 [some (.ref 0), some (.int x1), some (.int x2), some (.int x3)] [] (hp A V O) 0 0 (h105 Q)) : GO l E 105 0 [some (.ref 0), some (.int x1), some (.int x2), some (.int x3), some (.ref 45), none] [] (hp A V O) 0 0 Q := by
  refine R_aload z105_0 rfl ?_
  refine R_iconst z105_2 (v := 0) (by decide) ?_
  refine R_aload z105_3 rfl ?_
  refine R_iload z105_4 rfl ?_
  refine R_iload z105_5 rfl ?_
  refine R_iload z105_6 rfl ?_
  refine R_cv z105_7 (k := 31) (by decide +kernel) rfl rfl (by decide +kernel) (Nat.le_of_ble_eq_true (by rfl)) rfl ⟨rfl, trivial⟩ ?_
  refine GO_imp (fun o h' hh => ?_) hg
  obtain ⟨A2, V2, O2, rfl, hm⟩ := hh
  rcases hm with ⟨v, rfl, hm⟩ | ⟨rfl, hm⟩ | ⟨rfl, hm⟩ | ⟨rfl, hm⟩ | ⟨rfl, hm⟩
  · refine jBk_ret rfl ⟨rfl, rfl⟩ ?_
    refine R_i2l z105_10 ?_
    refine R_lst z105_11 (n := 1) (f := O2) (h' := hp A2 V2 (vp_updL O2 0 (v).toInt64)) rfl (show vp_in (nI 0) 1 from nin (by decide) (by decide)) rfl ?_
    refine R_goto z105_12 (tn := 31) rfl ?_
    refine R_iconst z105_31 (v := 0) (by decide) ?_
    exact R_iret z105_32 (Or.inl (by decide +kernel)) ⟨Nat.zero_le _, Nat.zero_le _⟩ (hm)
  · refine jBk_cat rfl (q := 15) (by decide +kernel) z105_15 rfl rfl rfl rfl ?_
    refine R_iconst z105_17 (v := 1) (by decide) ?_
    exact R_iret z105_18 (Or.inl (by decide +kernel)) ⟨Nat.le_of_ble_eq_true rfl, Nat.le_of_ble_eq_true rfl⟩ (hm)
  · refine jBk_cat rfl (q := 19) (by decide +kernel) z105_19 rfl rfl rfl rfl ?_
    refine R_iconst z105_21 (v := 2) (by decide) ?_
    exact R_iret z105_22 (Or.inl (by decide +kernel)) ⟨Nat.le_of_ble_eq_true rfl, Nat.le_of_ble_eq_true rfl⟩ (hm)
  · refine jBk_cat rfl (q := 23) (by decide +kernel) z105_23 rfl rfl rfl rfl ?_
    refine R_iconst z105_25 (v := 3) (by decide) ?_
    exact R_iret z105_26 (Or.inl (by decide +kernel)) ⟨Nat.le_of_ble_eq_true rfl, Nat.le_of_ble_eq_true rfl⟩ (hm)
  · refine jBk_cat rfl (q := 27) (by decide +kernel) z105_27 rfl rfl rfl rfl ?_
    refine R_iconst z105_29 (v := 4) (by decide) ?_
    exact R_iret z105_30 (Or.inl (by decide +kernel)) ⟨Nat.le_of_ble_eq_true rfl, Nat.le_of_ble_eq_true rfl⟩ (hm)
def h106 (Q : jO → List jC → Prop) : jO → List jC → Prop := fun o h => ∃ (A : Nat → Nat → Int32) (V : Nat → Int32) (O : Nat → Int64), h = hp A V O ∧ ((∃ v : Int32, o = .inl (some (.int v)) ∧ Q (.inl (some (.int 0))) (hp A V (vp_updL O 0 v.toInt64))) ∨ (o = .inr "java/lang/IllegalArgumentException" ∧ Q (.inl (some (.int 1))) (hp A V O)) ∨ (o = .inr "java/lang/IllegalStateException" ∧ Q (.inl (some (.int 2))) (hp A V O)) ∨ (o = .inr "java/lang/UnsupportedOperationException" ∧ Q (.inl (some (.int 3))) (hp A V O)))
theorem t106 {l : Launch} {E : jEnv} {A : Nat → Nat → Int32} {V : Nat → Int32} {O : Nat → Int64} {Q : jO → List jC → Prop} {x1 : Int32} {x2 : Int32} (hg : GO l E 32 0 [some (.ref 0), some (.int x1), some (.int x2)] [] (hp A V O) 0 0 (h106 Q)) : GO l E 106 0 [some (.ref 0), some (.int x1), some (.int x2), some (.ref 45), none] [] (hp A V O) 0 0 Q := by
  refine R_aload z106_0 rfl ?_
  refine R_iconst z106_1 (v := 0) (by decide) ?_
  refine R_aload z106_2 rfl ?_
  refine R_iload z106_3 rfl ?_
  refine R_iload z106_4 rfl ?_
  refine R_cv z106_5 (k := 32) (by decide +kernel) rfl rfl (by decide +kernel) (Nat.le_of_ble_eq_true (by rfl)) rfl ⟨rfl, trivial⟩ ?_
  refine GO_imp (fun o h' hh => ?_) hg
  obtain ⟨A2, V2, O2, rfl, hm⟩ := hh
  rcases hm with ⟨v, rfl, hm⟩ | ⟨rfl, hm⟩ | ⟨rfl, hm⟩ | ⟨rfl, hm⟩
  · refine jBk_ret rfl ⟨rfl, rfl⟩ ?_
    refine R_i2l z106_8 ?_
    refine R_lst z106_9 (n := 1) (f := O2) (h' := hp A2 V2 (vp_updL O2 0 (v).toInt64)) rfl (show vp_in (nI 0) 1 from nin (by decide) (by decide)) rfl ?_
    refine R_goto z106_10 (tn := 25) rfl ?_
    refine R_iconst z106_25 (v := 0) (by decide) ?_
    exact R_iret z106_26 (Or.inl (by decide +kernel)) ⟨Nat.zero_le _, Nat.zero_le _⟩ (hm)
  · refine jBk_cat rfl (q := 13) (by decide +kernel) z106_13 rfl rfl rfl rfl ?_
    refine R_iconst z106_15 (v := 1) (by decide) ?_
    exact R_iret z106_16 (Or.inl (by decide +kernel)) ⟨Nat.le_of_ble_eq_true rfl, Nat.le_of_ble_eq_true rfl⟩ (hm)
  · refine jBk_cat rfl (q := 17) (by decide +kernel) z106_17 rfl rfl rfl rfl ?_
    refine R_iconst z106_19 (v := 2) (by decide) ?_
    exact R_iret z106_20 (Or.inl (by decide +kernel)) ⟨Nat.le_of_ble_eq_true rfl, Nat.le_of_ble_eq_true rfl⟩ (hm)
  · refine jBk_cat rfl (q := 21) (by decide +kernel) z106_21 rfl rfl rfl rfl ?_
    refine R_iconst z106_23 (v := 3) (by decide) ?_
    exact R_iret z106_24 (Or.inl (by decide +kernel)) ⟨Nat.le_of_ble_eq_true rfl, Nat.le_of_ble_eq_true rfl⟩ (hm)
def h107 (Q : jO → List jC → Prop) : jO → List jC → Prop := fun o h => ∃ (A : Nat → Nat → Int32) (V : Nat → Int32) (O : Nat → Int64), h = hp A V O ∧ ((o = .inl none ∧ Q (.inl (some (.int 0))) (hp A V O)) ∨ (o = .inr "java/lang/IllegalArgumentException" ∧ Q (.inl (some (.int 1))) (hp A V O)) ∨ (o = .inr "java/lang/IllegalStateException" ∧ Q (.inl (some (.int 2))) (hp A V O)))
theorem t107 {l : Launch} {E : jEnv} {A : Nat → Nat → Int32} {V : Nat → Int32} {O : Nat → Int64} {Q : jO → List jC → Prop} {x1 : Int32} {x2 : Int32} {x3 : Int32} (hg : GO l E 33 0 [some (.ref 0), some (.int x1), some (.int x2), some (.int x3)] [] (hp A V O) 0 0 (h107 Q)) : GO l E 107 0 [some (.ref 0), some (.int x1), some (.int x2), some (.int x3), none] [] (hp A V O) 0 0 Q := by
  refine R_aload z107_0 rfl ?_
  refine R_iload z107_1 rfl ?_
  refine R_iload z107_2 rfl ?_
  refine R_iload z107_3 rfl ?_
  refine R_cv z107_4 (k := 33) (by decide +kernel) rfl rfl (by decide +kernel) (Nat.le_of_ble_eq_true (by rfl)) rfl ⟨rfl, trivial⟩ ?_
  refine GO_imp (fun o h' hh => ?_) hg
  obtain ⟨A2, V2, O2, rfl, hm⟩ := hh
  rcases hm with ⟨rfl, hm⟩ | ⟨rfl, hm⟩ | ⟨rfl, hm⟩
  · refine jBk_ret rfl ⟨rfl, rfl⟩ ?_
    refine R_goto z107_7 (tn := 18) rfl ?_
    refine R_iconst z107_18 (v := 0) (by decide) ?_
    exact R_iret z107_19 (Or.inl (by decide +kernel)) ⟨Nat.zero_le _, Nat.zero_le _⟩ (hm)
  · refine jBk_cat rfl (q := 10) (by decide +kernel) z107_10 rfl rfl rfl rfl ?_
    refine R_iconst z107_12 (v := 1) (by decide) ?_
    exact R_iret z107_13 (Or.inl (by decide +kernel)) ⟨Nat.le_of_ble_eq_true rfl, Nat.le_of_ble_eq_true rfl⟩ (hm)
  · refine jBk_cat rfl (q := 14) (by decide +kernel) z107_14 rfl rfl rfl rfl ?_
    refine R_iconst z107_16 (v := 2) (by decide) ?_
    exact R_iret z107_17 (Or.inl (by decide +kernel)) ⟨Nat.le_of_ble_eq_true rfl, Nat.le_of_ble_eq_true rfl⟩ (hm)
def h108 (Q : jO → List jC → Prop) : jO → List jC → Prop := fun o h => ∃ (A : Nat → Nat → Int32) (V : Nat → Int32) (O : Nat → Int64), h = hp A V O ∧ ((∃ v : Int32, o = .inl (some (.int v)) ∧ Q (.inl (some (.int 0))) (hp A V (vp_updL O 0 v.toInt64))) ∨ (o = .inr "java/lang/IllegalArgumentException" ∧ Q (.inl (some (.int 1))) (hp A V O)) ∨ (o = .inr "java/lang/IllegalStateException" ∧ Q (.inl (some (.int 2))) (hp A V O)))
theorem t108 {l : Launch} {E : jEnv} {A : Nat → Nat → Int32} {V : Nat → Int32} {O : Nat → Int64} {Q : jO → List jC → Prop} {x1 : Int32} {x2 : Int32} (hg : GO l E 34 0 [some (.ref 0), some (.int x1), some (.int x2)] [] (hp A V O) 0 0 (h108 Q)) : GO l E 108 0 [some (.ref 0), some (.int x1), some (.int x2), some (.ref 45), none] [] (hp A V O) 0 0 Q := by
  refine R_aload z108_0 rfl ?_
  refine R_iconst z108_1 (v := 0) (by decide) ?_
  refine R_aload z108_2 rfl ?_
  refine R_iload z108_3 rfl ?_
  refine R_iload z108_4 rfl ?_
  refine R_cv z108_5 (k := 34) (by decide +kernel) rfl rfl (by decide +kernel) (Nat.le_of_ble_eq_true (by rfl)) rfl ⟨rfl, trivial⟩ ?_
  refine GO_imp (fun o h' hh => ?_) hg
  obtain ⟨A2, V2, O2, rfl, hm⟩ := hh
  rcases hm with ⟨v, rfl, hm⟩ | ⟨rfl, hm⟩ | ⟨rfl, hm⟩
  · refine jBk_ret rfl ⟨rfl, rfl⟩ ?_
    refine R_i2l z108_8 ?_
    refine R_lst z108_9 (n := 1) (f := O2) (h' := hp A2 V2 (vp_updL O2 0 (v).toInt64)) rfl (show vp_in (nI 0) 1 from nin (by decide) (by decide)) rfl ?_
    refine R_goto z108_10 (tn := 21) rfl ?_
    refine R_iconst z108_21 (v := 0) (by decide) ?_
    exact R_iret z108_22 (Or.inl (by decide +kernel)) ⟨Nat.zero_le _, Nat.zero_le _⟩ (hm)
  · refine jBk_cat rfl (q := 13) (by decide +kernel) z108_13 rfl rfl rfl rfl ?_
    refine R_iconst z108_15 (v := 1) (by decide) ?_
    exact R_iret z108_16 (Or.inl (by decide +kernel)) ⟨Nat.le_of_ble_eq_true rfl, Nat.le_of_ble_eq_true rfl⟩ (hm)
  · refine jBk_cat rfl (q := 17) (by decide +kernel) z108_17 rfl rfl rfl rfl ?_
    refine R_iconst z108_19 (v := 2) (by decide) ?_
    exact R_iret z108_20 (Or.inl (by decide +kernel)) ⟨Nat.le_of_ble_eq_true rfl, Nat.le_of_ble_eq_true rfl⟩ (hm)
def h109 (Q : jO → List jC → Prop) : jO → List jC → Prop := fun o h => ∃ (A : Nat → Nat → Int32) (V : Nat → Int32) (O : Nat → Int64), h = hp A V O ∧ ((∃ v : Int32, o = .inl (some (.int v)) ∧ Q (.inl (some (.int 0))) (hp A V (vp_updL O 0 (if v = 0 then 0 else 1)))) ∨ (o = .inr "java/lang/IllegalArgumentException" ∧ Q (.inl (some (.int 1))) (hp A V O)) ∨ (o = .inr "java/lang/IndexOutOfBoundsException" ∧ Q (.inl (some (.int 2))) (hp A V O)))
theorem t109 {l : Launch} {E : jEnv} {A : Nat → Nat → Int32} {V : Nat → Int32} {O : Nat → Int64} {Q : jO → List jC → Prop} {x1 : Int32} {x2 : Int32} {x3 : Int32} (hg : GO l E 35 0 [some (.ref 0), some (.int x1), some (.int x2), some (.int x3)] [] (hp A V O) 0 0 (h109 Q)) : GO l E 109 0 [some (.ref 0), some (.int x1), some (.int x2), some (.int x3), some (.ref 45), none] [] (hp A V O) 0 0 Q := by
  refine R_aload z109_0 rfl ?_
  refine R_iconst z109_2 (v := 0) (by decide) ?_
  refine R_aload z109_3 rfl ?_
  refine R_iload z109_4 rfl ?_
  refine R_iload z109_5 rfl ?_
  refine R_iload z109_6 rfl ?_
  refine R_cv z109_7 (k := 35) (by decide +kernel) rfl rfl (by decide +kernel) (Nat.le_of_ble_eq_true (by rfl)) rfl ⟨rfl, trivial⟩ ?_
  refine GO_imp (fun o h' hh => ?_) hg
  obtain ⟨A2, V2, O2, rfl, hm⟩ := hh
  rcases hm with ⟨v, rfl, hm⟩ | ⟨rfl, hm⟩ | ⟨rfl, hm⟩
  · refine jBk_ret rfl ⟨rfl, rfl⟩ ?_
    refine R_if z109_10 (tn := 17) rfl (fun (h10 : (v : Int32) = 0) => ?_) (fun (h10 : ¬ (v : Int32) = 0) => ?_)
    · refine R_lconst z109_17 (v := 0) (by decide) ?_
      refine R_lst z109_18 (n := 1) (f := O2) (h' := hp A2 V2 (vp_updL O2 0 0)) rfl (show vp_in (nI 0) 1 from nin (by decide) (by decide)) rfl ?_
      refine R_goto z109_19 (tn := 30) rfl ?_
      refine R_iconst z109_30 (v := 0) (by decide) ?_
      exact R_iret z109_31 (Or.inl (by decide +kernel)) ⟨Nat.zero_le _, Nat.zero_le _⟩ (by rw [if_pos h10] at hm; exact hm)
    · refine R_lconst z109_13 (v := 1) (by decide) ?_
      refine R_goto z109_14 (tn := 18) rfl ?_
      refine R_lst z109_18 (n := 1) (f := O2) (h' := hp A2 V2 (vp_updL O2 0 1)) rfl (show vp_in (nI 0) 1 from nin (by decide) (by decide)) rfl ?_
      refine R_goto z109_19 (tn := 30) rfl ?_
      refine R_iconst z109_30 (v := 0) (by decide) ?_
      exact R_iret z109_31 (Or.inl (by decide +kernel)) ⟨Nat.zero_le _, Nat.zero_le _⟩ (by rw [if_neg h10] at hm; exact hm)
  · refine jBk_cat rfl (q := 22) (by decide +kernel) z109_22 rfl rfl rfl rfl ?_
    refine R_iconst z109_24 (v := 1) (by decide) ?_
    exact R_iret z109_25 (Or.inl (by decide +kernel)) ⟨Nat.le_of_ble_eq_true rfl, Nat.le_of_ble_eq_true rfl⟩ (hm)
  · refine jBk_cat rfl (q := 26) (by decide +kernel) z109_26 rfl rfl rfl rfl ?_
    refine R_iconst z109_28 (v := 2) (by decide) ?_
    exact R_iret z109_29 (Or.inl (by decide +kernel)) ⟨Nat.le_of_ble_eq_true rfl, Nat.le_of_ble_eq_true rfl⟩ (hm)
def h110 (Q : jO → List jC → Prop) : jO → List jC → Prop := fun o h => ∃ (A : Nat → Nat → Int32) (V : Nat → Int32) (O : Nat → Int64), h = hp A V O ∧ ((∃ v : Int32, o = .inl (some (.int v)) ∧ Q (.inl (some (.int 0))) (hp A V (vp_updL O 0 v.toInt64))) ∨ (o = .inr "java/lang/IllegalArgumentException" ∧ Q (.inl (some (.int 1))) (hp A V O)))
theorem t110 {l : Launch} {E : jEnv} {A : Nat → Nat → Int32} {V : Nat → Int32} {O : Nat → Int64} {Q : jO → List jC → Prop} {x1 : Int32} {x2 : Int32} (hg : GO l E 36 0 [some (.ref 0), some (.int x1), some (.int x2)] [] (hp A V O) 0 0 (h110 Q)) : GO l E 110 0 [some (.ref 0), some (.int x1), some (.int x2), some (.ref 45), none] [] (hp A V O) 0 0 Q := by
  refine R_aload z110_0 rfl ?_
  refine R_iconst z110_1 (v := 0) (by decide) ?_
  refine R_aload z110_2 rfl ?_
  refine R_iload z110_3 rfl ?_
  refine R_iload z110_4 rfl ?_
  refine R_cv z110_5 (k := 36) (by decide +kernel) rfl rfl (by decide +kernel) (Nat.le_of_ble_eq_true (by rfl)) rfl ⟨rfl, trivial⟩ ?_
  refine GO_imp (fun o h' hh => ?_) hg
  obtain ⟨A2, V2, O2, rfl, hm⟩ := hh
  rcases hm with ⟨v, rfl, hm⟩ | ⟨rfl, hm⟩
  · refine jBk_ret rfl ⟨rfl, rfl⟩ ?_
    refine R_i2l z110_8 ?_
    refine R_lst z110_9 (n := 1) (f := O2) (h' := hp A2 V2 (vp_updL O2 0 (v).toInt64)) rfl (show vp_in (nI 0) 1 from nin (by decide) (by decide)) rfl ?_
    refine R_goto z110_10 (tn := 17) rfl ?_
    refine R_iconst z110_17 (v := 0) (by decide) ?_
    exact R_iret z110_18 (Or.inl (by decide +kernel)) ⟨Nat.zero_le _, Nat.zero_le _⟩ (hm)
  · refine jBk_cat rfl (q := 13) (by decide +kernel) z110_13 rfl rfl rfl rfl ?_
    refine R_iconst z110_15 (v := 1) (by decide) ?_
    exact R_iret z110_16 (Or.inl (by decide +kernel)) ⟨Nat.le_of_ble_eq_true rfl, Nat.le_of_ble_eq_true rfl⟩ (hm)
def h111 (Q : jO → List jC → Prop) : jO → List jC → Prop := fun o h => ∃ (A : Nat → Nat → Int32) (V : Nat → Int32) (O : Nat → Int64), h = hp A V O ∧ ((∃ v : Int32, o = .inl (some (.int v)) ∧ Q (.inl (some (.int 0))) (hp A V (vp_updL O 0 v.toInt64))) ∨ (o = .inr "java/lang/IllegalArgumentException" ∧ Q (.inl (some (.int 1))) (hp A V O)))
theorem t111 {l : Launch} {E : jEnv} {A : Nat → Nat → Int32} {V : Nat → Int32} {O : Nat → Int64} {Q : jO → List jC → Prop} {x1 : Int32} {x2 : Int32} (hg : GO l E 37 0 [some (.ref 0), some (.int x1), some (.int x2)] [] (hp A V O) 0 0 (h111 Q)) : GO l E 111 0 [some (.ref 0), some (.int x1), some (.int x2), some (.ref 45), none] [] (hp A V O) 0 0 Q := by
  refine R_aload z111_0 rfl ?_
  refine R_iconst z111_1 (v := 0) (by decide) ?_
  refine R_aload z111_2 rfl ?_
  refine R_iload z111_3 rfl ?_
  refine R_iload z111_4 rfl ?_
  refine R_cv z111_5 (k := 37) (by decide +kernel) rfl rfl (by decide +kernel) (Nat.le_of_ble_eq_true (by rfl)) rfl ⟨rfl, trivial⟩ ?_
  refine GO_imp (fun o h' hh => ?_) hg
  obtain ⟨A2, V2, O2, rfl, hm⟩ := hh
  rcases hm with ⟨v, rfl, hm⟩ | ⟨rfl, hm⟩
  · refine jBk_ret rfl ⟨rfl, rfl⟩ ?_
    refine R_i2l z111_8 ?_
    refine R_lst z111_9 (n := 1) (f := O2) (h' := hp A2 V2 (vp_updL O2 0 (v).toInt64)) rfl (show vp_in (nI 0) 1 from nin (by decide) (by decide)) rfl ?_
    refine R_goto z111_10 (tn := 17) rfl ?_
    refine R_iconst z111_17 (v := 0) (by decide) ?_
    exact R_iret z111_18 (Or.inl (by decide +kernel)) ⟨Nat.zero_le _, Nat.zero_le _⟩ (hm)
  · refine jBk_cat rfl (q := 13) (by decide +kernel) z111_13 rfl rfl rfl rfl ?_
    refine R_iconst z111_15 (v := 1) (by decide) ?_
    exact R_iret z111_16 (Or.inl (by decide +kernel)) ⟨Nat.le_of_ble_eq_true rfl, Nat.le_of_ble_eq_true rfl⟩ (hm)
def h112 (Q : jO → List jC → Prop) : jO → List jC → Prop := fun o h => ∃ (A : Nat → Nat → Int32) (V : Nat → Int32) (O : Nat → Int64), h = hp A V O ∧ ((∃ v : Int32, o = .inl (some (.int v)) ∧ Q (.inl (some (.int 0))) (hp A V (vp_updL O 0 v.toInt64))) ∨ (o = .inr "java/lang/IllegalArgumentException" ∧ Q (.inl (some (.int 1))) (hp A V O)))
theorem t112 {l : Launch} {E : jEnv} {A : Nat → Nat → Int32} {V : Nat → Int32} {O : Nat → Int64} {Q : jO → List jC → Prop} {x1 : Int32} {x2 : Int32} (hg : GO l E 38 0 [some (.ref 0), some (.int x1), some (.int x2)] [] (hp A V O) 0 0 (h112 Q)) : GO l E 112 0 [some (.ref 0), some (.int x1), some (.int x2), some (.ref 45), none] [] (hp A V O) 0 0 Q := by
  refine R_aload z112_0 rfl ?_
  refine R_iconst z112_1 (v := 0) (by decide) ?_
  refine R_aload z112_2 rfl ?_
  refine R_iload z112_3 rfl ?_
  refine R_iload z112_4 rfl ?_
  refine R_cv z112_5 (k := 38) (by decide +kernel) rfl rfl (by decide +kernel) (Nat.le_of_ble_eq_true (by rfl)) rfl ⟨rfl, trivial⟩ ?_
  refine GO_imp (fun o h' hh => ?_) hg
  obtain ⟨A2, V2, O2, rfl, hm⟩ := hh
  rcases hm with ⟨v, rfl, hm⟩ | ⟨rfl, hm⟩
  · refine jBk_ret rfl ⟨rfl, rfl⟩ ?_
    refine R_i2l z112_8 ?_
    refine R_lst z112_9 (n := 1) (f := O2) (h' := hp A2 V2 (vp_updL O2 0 (v).toInt64)) rfl (show vp_in (nI 0) 1 from nin (by decide) (by decide)) rfl ?_
    refine R_goto z112_10 (tn := 17) rfl ?_
    refine R_iconst z112_17 (v := 0) (by decide) ?_
    exact R_iret z112_18 (Or.inl (by decide +kernel)) ⟨Nat.zero_le _, Nat.zero_le _⟩ (hm)
  · refine jBk_cat rfl (q := 13) (by decide +kernel) z112_13 rfl rfl rfl rfl ?_
    refine R_iconst z112_15 (v := 1) (by decide) ?_
    exact R_iret z112_16 (Or.inl (by decide +kernel)) ⟨Nat.le_of_ble_eq_true rfl, Nat.le_of_ble_eq_true rfl⟩ (hm)
def h113 (Q : jO → List jC → Prop) : jO → List jC → Prop := fun o h => ∃ (A : Nat → Nat → Int32) (V : Nat → Int32) (O : Nat → Int64), h = hp A V O ∧ ((∃ v : Int32, o = .inl (some (.int v)) ∧ Q (.inl (some (.int 0))) (hp A V (vp_updL O 0 v.toInt64))) ∨ (o = .inr "java/lang/IllegalArgumentException" ∧ Q (.inl (some (.int 1))) (hp A V O)))
theorem t113 {l : Launch} {E : jEnv} {A : Nat → Nat → Int32} {V : Nat → Int32} {O : Nat → Int64} {Q : jO → List jC → Prop} {x1 : Int32} (hg : GO l E 39 0 [some (.ref 0), some (.int x1)] [] (hp A V O) 0 0 (h113 Q)) : GO l E 113 0 [some (.ref 0), some (.int x1), some (.ref 45), none] [] (hp A V O) 0 0 Q := by
  refine R_aload z113_0 rfl ?_
  refine R_iconst z113_1 (v := 0) (by decide) ?_
  refine R_aload z113_2 rfl ?_
  refine R_iload z113_3 rfl ?_
  refine R_cv z113_4 (k := 39) (by decide +kernel) rfl rfl (by decide +kernel) (Nat.le_of_ble_eq_true (by rfl)) rfl ⟨rfl, trivial⟩ ?_
  refine GO_imp (fun o h' hh => ?_) hg
  obtain ⟨A2, V2, O2, rfl, hm⟩ := hh
  rcases hm with ⟨v, rfl, hm⟩ | ⟨rfl, hm⟩
  · refine jBk_ret rfl ⟨rfl, rfl⟩ ?_
    refine R_i2l z113_7 ?_
    refine R_lst z113_8 (n := 1) (f := O2) (h' := hp A2 V2 (vp_updL O2 0 (v).toInt64)) rfl (show vp_in (nI 0) 1 from nin (by decide) (by decide)) rfl ?_
    refine R_goto z113_9 (tn := 15) rfl ?_
    refine R_iconst z113_15 (v := 0) (by decide) ?_
    exact R_iret z113_16 (Or.inl (by decide +kernel)) ⟨Nat.zero_le _, Nat.zero_le _⟩ (hm)
  · refine jBk_cat rfl (q := 12) (by decide +kernel) z113_12 rfl rfl rfl rfl ?_
    refine R_iconst z113_13 (v := 1) (by decide) ?_
    exact R_iret z113_14 (Or.inl (by decide +kernel)) ⟨Nat.le_of_ble_eq_true rfl, Nat.le_of_ble_eq_true rfl⟩ (hm)
def h114 (Q : jO → List jC → Prop) : jO → List jC → Prop := fun o h => ∃ (A : Nat → Nat → Int32) (V : Nat → Int32) (O : Nat → Int64), h = hp A V O ∧ ((∃ v : Int32, o = .inl (some (.int v)) ∧ Q (.inl (some (.int 0))) (hp A V (vp_updL O 0 v.toInt64))) ∨ (o = .inr "java/lang/IllegalArgumentException" ∧ Q (.inl (some (.int 1))) (hp A V O)) ∨ (o = .inr "java/lang/IndexOutOfBoundsException" ∧ Q (.inl (some (.int 2))) (hp A V O)))
theorem t114 {l : Launch} {E : jEnv} {A : Nat → Nat → Int32} {V : Nat → Int32} {O : Nat → Int64} {Q : jO → List jC → Prop} {x1 : Int64} {x2 : Int32} {x3 : Int32} (hg : GO l E 40 0 [some (.ref 0), some (.long x1), none, some (.int x2), some (.int x3), none, none] [] (hp A V O) 0 0 (h114 Q)) : GO l E 114 0 [some (.ref 0), some (.long x1), none, some (.int x2), some (.int x3), some (.ref 45), none] [] (hp A V O) 0 0 Q := by
  refine R_aload z114_0 rfl ?_
  refine R_iconst z114_2 (v := 0) (by decide) ?_
  refine R_aload z114_3 rfl ?_
  refine R_lload z114_4 rfl ?_
  refine R_iload z114_5 rfl ?_
  refine R_iload z114_6 rfl ?_
  refine R_cv z114_8 (k := 40) (by decide +kernel) rfl rfl (by decide +kernel) (Nat.le_of_ble_eq_true (by rfl)) rfl ⟨rfl, trivial⟩ ?_
  refine GO_imp (fun o h' hh => ?_) hg
  obtain ⟨A2, V2, O2, rfl, hm⟩ := hh
  rcases hm with ⟨v, rfl, hm⟩ | ⟨rfl, hm⟩ | ⟨rfl, hm⟩
  · refine jBk_ret rfl ⟨rfl, rfl⟩ ?_
    refine R_i2l z114_11 ?_
    refine R_lst z114_12 (n := 1) (f := O2) (h' := hp A2 V2 (vp_updL O2 0 (v).toInt64)) rfl (show vp_in (nI 0) 1 from nin (by decide) (by decide)) rfl ?_
    refine R_goto z114_13 (tn := 24) rfl ?_
    refine R_iconst z114_24 (v := 0) (by decide) ?_
    exact R_iret z114_25 (Or.inl (by decide +kernel)) ⟨Nat.zero_le _, Nat.zero_le _⟩ (hm)
  · refine jBk_cat rfl (q := 16) (by decide +kernel) z114_16 rfl rfl rfl rfl ?_
    refine R_iconst z114_18 (v := 1) (by decide) ?_
    exact R_iret z114_19 (Or.inl (by decide +kernel)) ⟨Nat.le_of_ble_eq_true rfl, Nat.le_of_ble_eq_true rfl⟩ (hm)
  · refine jBk_cat rfl (q := 20) (by decide +kernel) z114_20 rfl rfl rfl rfl ?_
    refine R_iconst z114_22 (v := 2) (by decide) ?_
    exact R_iret z114_23 (Or.inl (by decide +kernel)) ⟨Nat.le_of_ble_eq_true rfl, Nat.le_of_ble_eq_true rfl⟩ (hm)
def h115 (Q : jO → List jC → Prop) : jO → List jC → Prop := fun o h => ∃ (A : Nat → Nat → Int32) (V : Nat → Int32) (O : Nat → Int64), h = hp A V O ∧ ((∃ v : Int32, o = .inl (some (.int v)) ∧ Q (.inl (some (.int 0))) (hp A V (vp_updL O 0 v.toInt64))) ∨ (o = .inr "java/lang/IllegalArgumentException" ∧ Q (.inl (some (.int 1))) (hp A V O)))
theorem t115 {l : Launch} {E : jEnv} {A : Nat → Nat → Int32} {V : Nat → Int32} {O : Nat → Int64} {Q : jO → List jC → Prop} {x1 : Int32} (hg : GO l E 41 0 [some (.ref 0), some (.int x1)] [] (hp A V O) 0 0 (h115 Q)) : GO l E 115 0 [some (.ref 0), some (.int x1), some (.ref 45), none] [] (hp A V O) 0 0 Q := by
  refine R_aload z115_0 rfl ?_
  refine R_iconst z115_1 (v := 0) (by decide) ?_
  refine R_aload z115_2 rfl ?_
  refine R_iload z115_3 rfl ?_
  refine R_cv z115_4 (k := 41) (by decide +kernel) rfl rfl (by decide +kernel) (Nat.le_of_ble_eq_true (by rfl)) rfl ⟨rfl, trivial⟩ ?_
  refine GO_imp (fun o h' hh => ?_) hg
  obtain ⟨A2, V2, O2, rfl, hm⟩ := hh
  rcases hm with ⟨v, rfl, hm⟩ | ⟨rfl, hm⟩
  · refine jBk_ret rfl ⟨rfl, rfl⟩ ?_
    refine R_i2l z115_7 ?_
    refine R_lst z115_8 (n := 1) (f := O2) (h' := hp A2 V2 (vp_updL O2 0 (v).toInt64)) rfl (show vp_in (nI 0) 1 from nin (by decide) (by decide)) rfl ?_
    refine R_goto z115_9 (tn := 15) rfl ?_
    refine R_iconst z115_15 (v := 0) (by decide) ?_
    exact R_iret z115_16 (Or.inl (by decide +kernel)) ⟨Nat.zero_le _, Nat.zero_le _⟩ (hm)
  · refine jBk_cat rfl (q := 12) (by decide +kernel) z115_12 rfl rfl rfl rfl ?_
    refine R_iconst z115_13 (v := 1) (by decide) ?_
    exact R_iret z115_14 (Or.inl (by decide +kernel)) ⟨Nat.le_of_ble_eq_true rfl, Nat.le_of_ble_eq_true rfl⟩ (hm)
def h116 (Q : jO → List jC → Prop) : jO → List jC → Prop := fun o h => ∃ (A : Nat → Nat → Int32) (V : Nat → Int32) (O : Nat → Int64), h = hp A V O ∧ ((∃ v : Int32, o = .inl (some (.int v)) ∧ Q (.inl (some (.int 0))) (hp A V (vp_updL O 0 v.toInt64))) ∨ (o = .inr "java/lang/IllegalArgumentException" ∧ Q (.inl (some (.int 1))) (hp A V O)) ∨ (o = .inr "java/lang/IndexOutOfBoundsException" ∧ Q (.inl (some (.int 2))) (hp A V O)))
theorem t116 {l : Launch} {E : jEnv} {A : Nat → Nat → Int32} {V : Nat → Int32} {O : Nat → Int64} {Q : jO → List jC → Prop} {x1 : Int32} {x2 : Int32} (hg : GO l E 42 0 [some (.ref 0), some (.int x1), some (.int x2), none, none] [] (hp A V O) 0 0 (h116 Q)) : GO l E 116 0 [some (.ref 0), some (.int x1), some (.int x2), some (.ref 45), none] [] (hp A V O) 0 0 Q := by
  refine R_aload z116_0 rfl ?_
  refine R_iconst z116_1 (v := 0) (by decide) ?_
  refine R_aload z116_2 rfl ?_
  refine R_iload z116_3 rfl ?_
  refine R_iload z116_4 rfl ?_
  refine R_cv z116_5 (k := 42) (by decide +kernel) rfl rfl (by decide +kernel) (Nat.le_of_ble_eq_true (by rfl)) rfl ⟨rfl, trivial⟩ ?_
  refine GO_imp (fun o h' hh => ?_) hg
  obtain ⟨A2, V2, O2, rfl, hm⟩ := hh
  rcases hm with ⟨v, rfl, hm⟩ | ⟨rfl, hm⟩ | ⟨rfl, hm⟩
  · refine jBk_ret rfl ⟨rfl, rfl⟩ ?_
    refine R_i2l z116_8 ?_
    refine R_lst z116_9 (n := 1) (f := O2) (h' := hp A2 V2 (vp_updL O2 0 (v).toInt64)) rfl (show vp_in (nI 0) 1 from nin (by decide) (by decide)) rfl ?_
    refine R_goto z116_10 (tn := 21) rfl ?_
    refine R_iconst z116_21 (v := 0) (by decide) ?_
    exact R_iret z116_22 (Or.inl (by decide +kernel)) ⟨Nat.zero_le _, Nat.zero_le _⟩ (hm)
  · refine jBk_cat rfl (q := 13) (by decide +kernel) z116_13 rfl rfl rfl rfl ?_
    refine R_iconst z116_15 (v := 1) (by decide) ?_
    exact R_iret z116_16 (Or.inl (by decide +kernel)) ⟨Nat.le_of_ble_eq_true rfl, Nat.le_of_ble_eq_true rfl⟩ (hm)
  · refine jBk_cat rfl (q := 17) (by decide +kernel) z116_17 rfl rfl rfl rfl ?_
    refine R_iconst z116_19 (v := 2) (by decide) ?_
    exact R_iret z116_20 (Or.inl (by decide +kernel)) ⟨Nat.le_of_ble_eq_true rfl, Nat.le_of_ble_eq_true rfl⟩ (hm)
def h117 (Q : jO → List jC → Prop) : jO → List jC → Prop := fun o h => ∃ (A : Nat → Nat → Int32) (V : Nat → Int32) (O : Nat → Int64), h = hp A V O ∧ ((∃ v : Int32, o = .inl (some (.int v)) ∧ Q (.inl (some (.int 0))) (hp A V (vp_updL O 0 v.toInt64))) ∨ (o = .inr "java/lang/IllegalArgumentException" ∧ Q (.inl (some (.int 1))) (hp A V O)))
theorem t117 {l : Launch} {E : jEnv} {A : Nat → Nat → Int32} {V : Nat → Int32} {O : Nat → Int64} {Q : jO → List jC → Prop} {x1 : Int32} (hg : GO l E 43 0 [some (.ref 0), some (.int x1)] [] (hp A V O) 0 0 (h117 Q)) : GO l E 117 0 [some (.ref 0), some (.int x1), some (.ref 45), none] [] (hp A V O) 0 0 Q := by
  refine R_aload z117_0 rfl ?_
  refine R_iconst z117_1 (v := 0) (by decide) ?_
  refine R_aload z117_2 rfl ?_
  refine R_iload z117_3 rfl ?_
  refine R_cv z117_4 (k := 43) (by decide +kernel) rfl rfl (by decide +kernel) (Nat.le_of_ble_eq_true (by rfl)) rfl ⟨rfl, trivial⟩ ?_
  refine GO_imp (fun o h' hh => ?_) hg
  obtain ⟨A2, V2, O2, rfl, hm⟩ := hh
  rcases hm with ⟨v, rfl, hm⟩ | ⟨rfl, hm⟩
  · refine jBk_ret rfl ⟨rfl, rfl⟩ ?_
    refine R_i2l z117_7 ?_
    refine R_lst z117_8 (n := 1) (f := O2) (h' := hp A2 V2 (vp_updL O2 0 (v).toInt64)) rfl (show vp_in (nI 0) 1 from nin (by decide) (by decide)) rfl ?_
    refine R_goto z117_9 (tn := 15) rfl ?_
    refine R_iconst z117_15 (v := 0) (by decide) ?_
    exact R_iret z117_16 (Or.inl (by decide +kernel)) ⟨Nat.zero_le _, Nat.zero_le _⟩ (hm)
  · refine jBk_cat rfl (q := 12) (by decide +kernel) z117_12 rfl rfl rfl rfl ?_
    refine R_iconst z117_13 (v := 1) (by decide) ?_
    exact R_iret z117_14 (Or.inl (by decide +kernel)) ⟨Nat.le_of_ble_eq_true rfl, Nat.le_of_ble_eq_true rfl⟩ (hm)

theorem ncb {c : Int32} {c2 n : Nat} (e : c = nI c2) (h : c2 < n) (hn : n ≤ 16) : ¬ (c < 0 ∨ ¬ c < nI n) := by
  subst e
  rintro (z | z)
  · exact nI_pos (by omega) z
  · exact z ((nlt (by omega) (by omega)).mpr h)
theorem npb {p c : Int32} {p2 c2 n : Nat} (e1 : p = nI p2) (e2 : c = nI c2) (h1 : p2 < 20) (h2 : c2 < n) (hn : n ≤ 16) : ¬ (p < 0 ∨ ¬ p < 20 ∨ c < 0 ∨ ¬ c < nI n) := by
  rintro (z | z | z)
  · subst e1; exact nI_pos (by omega) z
  · subst e1; exact z (by rw [n20, nlt (by omega) (by omega)]; exact h1)
  · exact ncb e2 h2 hn z
theorem s87x {l : Launch} {E : jEnv} {A : Nat → Nat → Int32} {V : Nat → Int32} {O : Nat → Int64} {Q : jO → List jC → Prop} {p c : Int32} { n r : Nat} (hW : mWf A V n r) (hbad : (p < 0 ∨ ¬ p < 20 ∨ c < 0 ∨ ¬ c < nI n)) (hQ : Q (.inl (some (.int 0))) (hp A (va_up V 6 1) O)) : GO l E 87 0 [some (.ref 25), some (.int p), some (.int c), none] [] (hp A V O) 0 0 Q := by
  refine R_aload z87_0 rfl ?_
  refine R_aload z87_1 rfl ?_
  refine R_iload z87_2 rfl ?_
  refine R_iload z87_3 rfl ?_
  refine R_cv z87_4 (k := 66) (by decide +kernel) rfl rfl (by decide +kernel) (Nat.le_of_ble_eq_true (by rfl)) rfl ⟨rfl, trivial⟩ ?_
  refine s66 hW.1 hW.2.1 (fun p2 c2 e1 e2 l1 l2 => absurd hbad (npb e1 e2 l1 l2 hW.2.1)) (fun _ => jBk_ret rfl ⟨rfl, rfl⟩ ?_)
  refine R_if z87_7 (tn := 14) rfl (fun q => absurd (show ¬ (0 : Int32) = 0 from q) (by decide)) (fun _ => ?_)
  refine R_iconst z87_10 (v := 1) (by decide) ?_
  refine R_goto z87_11 (tn := 15) rfl ?_
  refine R_iconst z87_15 (v := 0) (by decide) ?_
  refine R_iconst z87_16 (v := 0) (by decide) ?_
  refine R_iconst z87_17 (v := 0) (by decide) ?_
  refine R_cv z87_18 (k := 63) (by decide +kernel) rfl rfl (by decide +kernel) (Nat.le_of_ble_eq_true (by rfl)) rfl ⟨rfl, trivial⟩ ?_
  refine s63 (fun q => absurd q (by decide)) (fun _ => jBk_ret rfl ⟨rfl, rfl⟩ ?_)
  refine R_if z87_21 (tn := 26) rfl (fun q => absurd (show (1 : Int32) = 0 from q) (by decide)) (fun _ => ?_)
  refine R_iconst z87_24 (v := 0) (by decide) ?_
  exact R_iret z87_25 (Or.inl (by decide +kernel)) ⟨Nat.zero_le _, Nat.zero_le _⟩ (hQ)
def mLapse (A : Nat → Nat → Int32) (V : Nat → Int32) (r p c : Nat) : Int32 := if 0 ≤ mPass A (nI p) (nI c) (V 7) r then mLap A (mPass A (nI p) (nI c) (V 7) r).toNatClampNeg (V 7) else -1
theorem ml_e {A : Nat → Nat → Int32} {V : Nat → Int32} {r p c x : Nat} (hr : r ≤ 300) (hx : x < r) (ex : mPass A (nI p) (nI c) (V 7) r = nI x) (h38 : (0 : Int32) ≤ mPass A (nI p) (nI c) (V 7) r) {P : Int32 → Prop} (h : P (mLapse A V r p c)) : P (mLap A x (V 7)) := by
  have e : mLapse A V r p c = mLap A x (V 7) := by rw [mLapse, if_pos h38, ex, ncl (by omega)]
  rw [e] at h
  exact h
theorem s87 {l : Launch} {E : jEnv} {A : Nat → Nat → Int32} {V : Nat → Int32} {O : Nat → Int64} {Q : jO → List jC → Prop} {p c n r : Nat} (hW : mWf A V n r) (hp2 : p < 20) (hcn : c < n) (hc : c < 16) (hQ : Q (.inl (some (.int (mLapse A V r p c)))) (hp A (va_up V 6 0) O)) : GO l E 87 0 [some (.ref 25), some (.int (nI p)), some (.int (nI c)), none] [] (hp A V O) 0 0 Q := by
  refine R_aload z87_0 rfl ?_
  refine R_aload z87_1 rfl ?_
  refine R_iload z87_2 rfl ?_
  refine R_iload z87_3 rfl ?_
  refine R_cv z87_4 (k := 66) (by decide +kernel) rfl rfl (by decide +kernel) (Nat.le_of_ble_eq_true (by rfl)) rfl ⟨rfl, trivial⟩ ?_
  refine s66 hW.1 hW.2.1 (fun _ _ _ _ _ _ => jBk_ret rfl ⟨rfl, rfl⟩ ?_) (fun g => absurd g (npb rfl rfl hp2 hcn hW.2.1))
  refine R_if z87_7 (tn := 14) rfl (fun _ => ?_) (fun q => absurd (show ¬ (1 : Int32) = 0 by decide) q)
  refine R_iconst z87_14 (v := 0) (by decide) ?_
  refine R_iconst z87_15 (v := 0) (by decide) ?_
  refine R_iconst z87_16 (v := 0) (by decide) ?_
  refine R_iconst z87_17 (v := 0) (by decide) ?_
  refine R_cv z87_18 (k := 63) (by decide +kernel) rfl rfl (by decide +kernel) (Nat.le_of_ble_eq_true (by rfl)) rfl ⟨rfl, trivial⟩ ?_
  refine s63 (fun _ => jBk_ret rfl ⟨rfl, rfl⟩ ?_) (fun q => absurd rfl q)
  refine R_if z87_21 (tn := 26) rfl (fun _ => ?_) (fun q => absurd (show (0 : Int32) = 0 by decide) q)
  refine R_aload z87_26 rfl ?_
  refine R_iload z87_27 rfl ?_
  refine R_iload z87_28 rfl ?_
  refine R_aload z87_29 rfl ?_
  refine R_get z87_30 (k := 4) (f := 1) (by decide +kernel) rfl rfl ?_
  refine R_cv z87_33 (k := 73) (by decide +kernel) rfl rfl (by decide +kernel) (Nat.le_of_ble_eq_true (by rfl)) rfl ⟨rfl, trivial⟩ ?_
  refine s73 (show mWf A (va_up V 6 0) n r from hW) (jBk_ret rfl ⟨rfl, rfl⟩ ?_)
  refine R_istore z87_36 (loc' := [some (.ref 25), some (.int (nI p)), some (.int (nI c)), some (.int (mPass A (nI p) (nI c) (V 7) r))]) rfl rfl ?_
  refine R_iload z87_37 rfl ?_
  refine R_if z87_38 (tn := 45) rfl (fun (h38 : (0 : Int32) ≤ (mPass A (nI p) (nI c) (V 7) r)) => ?_) (fun (h38 : ¬ (0 : Int32) ≤ (mPass A (nI p) (nI c) (V 7) r)) => ?_)
  · obtain ⟨x, hx, ex⟩ := mPass_nat hW.2.2.2.1 (Int32.not_lt.mpr h38)
    refine R_aload z87_45 rfl ?_
    refine R_iload z87_46 rfl ?_
    refine R_aload z87_47 rfl ?_
    refine R_get z87_48 (k := 4) (f := 1) (by decide +kernel) rfl rfl ?_
    refine R_cv z87_51 (k := 74) (by decide +kernel) rfl rfl (by decide +kernel) (Nat.le_of_ble_eq_true (by rfl)) rfl ⟨rfl, trivial⟩ ?_
    refine s74b (show mWf A (va_up V 6 0) n r from hW) hx ex (jBk_ret rfl ⟨rfl, rfl⟩ ?_)
    exact R_iret z87_54 (Or.inl (by decide +kernel)) ⟨Nat.zero_le _, Nat.zero_le _⟩ (ml_e hW.2.2.2.1 hx ex h38 (P := fun v => Q (.inl (some (.int v))) (hp A (va_up V 6 0) O)) hQ)
  · refine R_iconst z87_41 (v := (-1)) (by decide) ?_
    refine R_goto z87_42 (tn := 54) rfl ?_
    exact R_iret z87_54 (Or.inl (by decide +kernel)) ⟨Nat.zero_le _, Nat.zero_le _⟩ (by have e : mLapse A V r p c = -1 := if_neg h38; rw [e] at hQ; exact hQ)
theorem s88x {l : Launch} {E : jEnv} {A : Nat → Nat → Int32} {V : Nat → Int32} {O : Nat → Int64} {Q : jO → List jC → Prop} {p c : Int32} { n r : Nat} (hW : mWf A V n r) (hbad : (p < 0 ∨ ¬ p < 20 ∨ c < 0 ∨ ¬ c < nI n)) (hQ : Q (.inl (some (.int 0))) (hp A (va_up V 6 1) O)) : GO l E 88 0 [some (.ref 25), some (.int p), some (.int c)] [] (hp A V O) 0 0 Q := by
  refine R_aload z88_0 rfl ?_
  refine R_aload z88_1 rfl ?_
  refine R_iload z88_2 rfl ?_
  refine R_iload z88_3 rfl ?_
  refine R_cv z88_4 (k := 66) (by decide +kernel) rfl rfl (by decide +kernel) (Nat.le_of_ble_eq_true (by rfl)) rfl ⟨rfl, trivial⟩ ?_
  refine s66 hW.1 hW.2.1 (fun p2 c2 e1 e2 l1 l2 => absurd hbad (npb e1 e2 l1 l2 hW.2.1)) (fun _ => jBk_ret rfl ⟨rfl, rfl⟩ ?_)
  refine R_if z88_7 (tn := 14) rfl (fun q => absurd (show ¬ (0 : Int32) = 0 from q) (by decide)) (fun _ => ?_)
  refine R_iconst z88_10 (v := 1) (by decide) ?_
  refine R_goto z88_11 (tn := 15) rfl ?_
  refine R_iconst z88_15 (v := 0) (by decide) ?_
  refine R_iconst z88_16 (v := 0) (by decide) ?_
  refine R_iconst z88_17 (v := 0) (by decide) ?_
  refine R_cv z88_18 (k := 63) (by decide +kernel) rfl rfl (by decide +kernel) (Nat.le_of_ble_eq_true (by rfl)) rfl ⟨rfl, trivial⟩ ?_
  refine s63 (fun q => absurd q (by decide)) (fun _ => jBk_ret rfl ⟨rfl, rfl⟩ ?_)
  refine R_if z88_21 (tn := 26) rfl (fun q => absurd (show (1 : Int32) = 0 from q) (by decide)) (fun _ => ?_)
  refine R_iconst z88_24 (v := 0) (by decide) ?_
  exact R_iret z88_25 (Or.inl (by decide +kernel)) ⟨Nat.zero_le _, Nat.zero_le _⟩ (hQ)
theorem s88 {l : Launch} {E : jEnv} {A : Nat → Nat → Int32} {V : Nat → Int32} {O : Nat → Int64} {Q : jO → List jC → Prop} {p c n r : Nat} (hW : mWf A V n r) (hp2 : p < 20) (hcn : c < n) (hc : c < 16) (hQ : Q (.inl (some (.int (nI (mFails A (nI p) (nI c) r))))) (hp A (va_up V 6 0) O)) : GO l E 88 0 [some (.ref 25), some (.int (nI p)), some (.int (nI c))] [] (hp A V O) 0 0 Q := by
  refine R_aload z88_0 rfl ?_
  refine R_aload z88_1 rfl ?_
  refine R_iload z88_2 rfl ?_
  refine R_iload z88_3 rfl ?_
  refine R_cv z88_4 (k := 66) (by decide +kernel) rfl rfl (by decide +kernel) (Nat.le_of_ble_eq_true (by rfl)) rfl ⟨rfl, trivial⟩ ?_
  refine s66 hW.1 hW.2.1 (fun _ _ _ _ _ _ => jBk_ret rfl ⟨rfl, rfl⟩ ?_) (fun g => absurd g (npb rfl rfl hp2 hcn hW.2.1))
  refine R_if z88_7 (tn := 14) rfl (fun _ => ?_) (fun q => absurd (show ¬ (1 : Int32) = 0 by decide) q)
  refine R_iconst z88_14 (v := 0) (by decide) ?_
  refine R_iconst z88_15 (v := 0) (by decide) ?_
  refine R_iconst z88_16 (v := 0) (by decide) ?_
  refine R_iconst z88_17 (v := 0) (by decide) ?_
  refine R_cv z88_18 (k := 63) (by decide +kernel) rfl rfl (by decide +kernel) (Nat.le_of_ble_eq_true (by rfl)) rfl ⟨rfl, trivial⟩ ?_
  refine s63 (fun _ => jBk_ret rfl ⟨rfl, rfl⟩ ?_) (fun q => absurd rfl q)
  refine R_if z88_21 (tn := 26) rfl (fun _ => ?_) (fun q => absurd (show (0 : Int32) = 0 by decide) q)
  refine R_aload z88_26 rfl ?_
  refine R_iload z88_27 rfl ?_
  refine R_iload z88_28 rfl ?_
  refine R_cv z88_29 (k := 76) (by decide +kernel) rfl rfl (by decide +kernel) (Nat.le_of_ble_eq_true (by rfl)) rfl ⟨rfl, trivial⟩ ?_
  refine s76 (show mWf A (va_up V 6 0) n r from hW) (jBk_ret rfl ⟨rfl, rfl⟩ ?_)
  exact R_iret z88_32 (Or.inl (by decide +kernel)) ⟨Nat.zero_le _, Nat.zero_le _⟩ (hQ)
theorem s89x {l : Launch} {E : jEnv} {A : Nat → Nat → Int32} {V : Nat → Int32} {O : Nat → Int64} {Q : jO → List jC → Prop} {p c : Int32} { n r : Nat} (hW : mWf A V n r) (hbad : (p < 0 ∨ ¬ p < 20 ∨ c < 0 ∨ ¬ c < nI n)) (hQ : Q (.inl (some (.int 0))) (hp A (va_up V 6 1) O)) : GO l E 89 0 [some (.ref 25), some (.int p), some (.int c)] [] (hp A V O) 0 0 Q := by
  refine R_aload z89_0 rfl ?_
  refine R_aload z89_1 rfl ?_
  refine R_iload z89_2 rfl ?_
  refine R_iload z89_3 rfl ?_
  refine R_cv z89_4 (k := 66) (by decide +kernel) rfl rfl (by decide +kernel) (Nat.le_of_ble_eq_true (by rfl)) rfl ⟨rfl, trivial⟩ ?_
  refine s66 hW.1 hW.2.1 (fun p2 c2 e1 e2 l1 l2 => absurd hbad (npb e1 e2 l1 l2 hW.2.1)) (fun _ => jBk_ret rfl ⟨rfl, rfl⟩ ?_)
  refine R_if z89_7 (tn := 14) rfl (fun q => absurd (show ¬ (0 : Int32) = 0 from q) (by decide)) (fun _ => ?_)
  refine R_iconst z89_10 (v := 1) (by decide) ?_
  refine R_goto z89_11 (tn := 15) rfl ?_
  refine R_iconst z89_15 (v := 0) (by decide) ?_
  refine R_iconst z89_16 (v := 0) (by decide) ?_
  refine R_iconst z89_17 (v := 0) (by decide) ?_
  refine R_cv z89_18 (k := 63) (by decide +kernel) rfl rfl (by decide +kernel) (Nat.le_of_ble_eq_true (by rfl)) rfl ⟨rfl, trivial⟩ ?_
  refine s63 (fun q => absurd q (by decide)) (fun _ => jBk_ret rfl ⟨rfl, rfl⟩ ?_)
  refine R_if z89_21 (tn := 26) rfl (fun q => absurd (show (1 : Int32) = 0 from q) (by decide)) (fun _ => ?_)
  refine R_iconst z89_24 (v := 0) (by decide) ?_
  exact R_iret z89_25 (Or.inl (by decide +kernel)) ⟨Nat.zero_le _, Nat.zero_le _⟩ (hQ)
theorem s89 {l : Launch} {E : jEnv} {A : Nat → Nat → Int32} {V : Nat → Int32} {O : Nat → Int64} {Q : jO → List jC → Prop} {p c n r : Nat} (hW : mWf A V n r) (hp2 : p < 20) (hcn : c < n) (hc : c < 16) (hQ : Q (.inl (some (.int (nI (mWhy A V n r p c))))) (hp A (va_up V 6 0) O)) : GO l E 89 0 [some (.ref 25), some (.int (nI p)), some (.int (nI c))] [] (hp A V O) 0 0 Q := by
  refine R_aload z89_0 rfl ?_
  refine R_aload z89_1 rfl ?_
  refine R_iload z89_2 rfl ?_
  refine R_iload z89_3 rfl ?_
  refine R_cv z89_4 (k := 66) (by decide +kernel) rfl rfl (by decide +kernel) (Nat.le_of_ble_eq_true (by rfl)) rfl ⟨rfl, trivial⟩ ?_
  refine s66 hW.1 hW.2.1 (fun _ _ _ _ _ _ => jBk_ret rfl ⟨rfl, rfl⟩ ?_) (fun g => absurd g (npb rfl rfl hp2 hcn hW.2.1))
  refine R_if z89_7 (tn := 14) rfl (fun _ => ?_) (fun q => absurd (show ¬ (1 : Int32) = 0 by decide) q)
  refine R_iconst z89_14 (v := 0) (by decide) ?_
  refine R_iconst z89_15 (v := 0) (by decide) ?_
  refine R_iconst z89_16 (v := 0) (by decide) ?_
  refine R_iconst z89_17 (v := 0) (by decide) ?_
  refine R_cv z89_18 (k := 63) (by decide +kernel) rfl rfl (by decide +kernel) (Nat.le_of_ble_eq_true (by rfl)) rfl ⟨rfl, trivial⟩ ?_
  refine s63 (fun _ => jBk_ret rfl ⟨rfl, rfl⟩ ?_) (fun q => absurd rfl q)
  refine R_if z89_21 (tn := 26) rfl (fun _ => ?_) (fun q => absurd (show (0 : Int32) = 0 by decide) q)
  refine R_aload z89_26 rfl ?_
  refine R_iload z89_27 rfl ?_
  refine R_iload z89_28 rfl ?_
  refine R_cv z89_29 (k := 78) (by decide +kernel) rfl rfl (by decide +kernel) (Nat.le_of_ble_eq_true (by rfl)) rfl ⟨rfl, trivial⟩ ?_
  refine s78 (show mWf A (va_up V 6 0) n r from hW) hp2 hc (jBk_ret rfl ⟨rfl, rfl⟩ ?_)
  exact R_iret z89_32 (Or.inl (by decide +kernel)) ⟨Nat.zero_le _, Nat.zero_le _⟩ (hQ)
theorem mSum_6 {A : Nat → Nat → Int32} {V : Nat → Int32} {x : Int32} (r c : Nat) : ∀ k, mSum A (va_up V 6 x) r c k = mSum A V r c k
  | 0 => rfl
  | k + 1 => by rw [mSum, mSum, mSum_6 r c k]; rfl
theorem mToday_6 {A : Nat → Nat → Int32} {V : Nat → Int32} {x : Int32} (c : Nat) : ∀ k, mToday A (va_up V 6 x) c k = mToday A V c k
  | 0 => rfl
  | k + 1 => by rw [mToday, mToday, mToday_6 c k]; rfl
theorem mRoom_6 {A : Nat → Nat → Int32} {V : Nat → Int32} {x : Int32} (r c : Nat) : mRoom A (va_up V 6 x) r c = mRoom A V r c := by unfold mRoom; rw [mSum_6, mToday_6]
theorem s90x {l : Launch} {E : jEnv} {A : Nat → Nat → Int32} {V : Nat → Int32} {O : Nat → Int64} {Q : jO → List jC → Prop} {c : Int32} { n r : Nat} (hW : mWf A V n r) (hbad : (c < 0 ∨ ¬ c < nI n)) (hQ : Q (.inl (some (.int 0))) (hp A (va_up V 6 1) O)) : GO l E 90 0 [some (.ref 25), some (.int c)] [] (hp A V O) 0 0 Q := by
  refine R_aload z90_0 rfl ?_
  refine R_aload z90_1 rfl ?_
  refine R_iload z90_2 rfl ?_
  refine R_cv z90_3 (k := 65) (by decide +kernel) rfl rfl (by decide +kernel) (Nat.le_of_ble_eq_true (by rfl)) rfl ⟨rfl, trivial⟩ ?_
  refine s65 hW.1 hW.2.1 (fun c2 e2 l2 => absurd hbad (ncb e2 l2 hW.2.1)) (fun _ => jBk_ret rfl ⟨rfl, rfl⟩ ?_)
  refine R_if z90_6 (tn := 13) rfl (fun q => absurd (show ¬ (0 : Int32) = 0 from q) (by decide)) (fun _ => ?_)
  refine R_iconst z90_9 (v := 1) (by decide) ?_
  refine R_goto z90_10 (tn := 14) rfl ?_
  refine R_iconst z90_14 (v := 0) (by decide) ?_
  refine R_iconst z90_15 (v := 0) (by decide) ?_
  refine R_iconst z90_16 (v := 0) (by decide) ?_
  refine R_cv z90_17 (k := 63) (by decide +kernel) rfl rfl (by decide +kernel) (Nat.le_of_ble_eq_true (by rfl)) rfl ⟨rfl, trivial⟩ ?_
  refine s63 (fun q => absurd q (by decide)) (fun _ => jBk_ret rfl ⟨rfl, rfl⟩ ?_)
  refine R_if z90_20 (tn := 25) rfl (fun q => absurd (show (1 : Int32) = 0 from q) (by decide)) (fun _ => ?_)
  refine R_iconst z90_23 (v := 0) (by decide) ?_
  exact R_iret z90_24 (Or.inl (by decide +kernel)) ⟨Nat.zero_le _, Nat.zero_le _⟩ (hQ)
theorem s90 {l : Launch} {E : jEnv} {A : Nat → Nat → Int32} {V : Nat → Int32} {O : Nat → Int64} {Q : jO → List jC → Prop} {c n r : Nat} (hW : mWf A V n r) (hcn : c < n) (hc : c < 16) (hQ : Q (.inl (some (.int (mRoom A V r c)))) (hp A (va_up V 6 0) O)) : GO l E 90 0 [some (.ref 25), some (.int (nI c))] [] (hp A V O) 0 0 Q := by
  refine R_aload z90_0 rfl ?_
  refine R_aload z90_1 rfl ?_
  refine R_iload z90_2 rfl ?_
  refine R_cv z90_3 (k := 65) (by decide +kernel) rfl rfl (by decide +kernel) (Nat.le_of_ble_eq_true (by rfl)) rfl ⟨rfl, trivial⟩ ?_
  refine s65 hW.1 hW.2.1 (fun _ _ _ => jBk_ret rfl ⟨rfl, rfl⟩ ?_) (fun g => absurd g (ncb rfl hcn hW.2.1))
  refine R_if z90_6 (tn := 13) rfl (fun _ => ?_) (fun q => absurd (show ¬ (1 : Int32) = 0 by decide) q)
  refine R_iconst z90_13 (v := 0) (by decide) ?_
  refine R_iconst z90_14 (v := 0) (by decide) ?_
  refine R_iconst z90_15 (v := 0) (by decide) ?_
  refine R_iconst z90_16 (v := 0) (by decide) ?_
  refine R_cv z90_17 (k := 63) (by decide +kernel) rfl rfl (by decide +kernel) (Nat.le_of_ble_eq_true (by rfl)) rfl ⟨rfl, trivial⟩ ?_
  refine s63 (fun _ => jBk_ret rfl ⟨rfl, rfl⟩ ?_) (fun q => absurd rfl q)
  refine R_if z90_20 (tn := 25) rfl (fun _ => ?_) (fun q => absurd (show (0 : Int32) = 0 by decide) q)
  refine R_aload z90_25 rfl ?_
  refine R_iload z90_26 rfl ?_
  refine R_cv z90_27 (k := 80) (by decide +kernel) rfl rfl (by decide +kernel) (Nat.le_of_ble_eq_true (by rfl)) rfl ⟨rfl, trivial⟩ ?_
  refine s80 (show mWf A (va_up V 6 0) n r from hW) hc (jBk_ret rfl ⟨rfl, rfl⟩ ?_)
  exact R_iret z90_30 (Or.inl (by decide +kernel)) ⟨Nat.zero_le _, Nat.zero_le _⟩ (by rw [mRoom_6]; exact hQ)
theorem s72x {l : Launch} {E : jEnv} {A : Nat → Nat → Int32} {V : Nat → Int32} {O : Nat → Int64} {Q : jO → List jC → Prop} {c m : Int32} { n r : Nat} (hW : mWf A V n r) (hbad : (c < 0 ∨ ¬ c < nI n)) (hQ : Q (.inl none) (hp A (va_up V 6 1) O)) : GO l E 72 0 [some (.ref 25), some (.int c), some (.int m)] [] (hp A V O) 0 0 Q := by
  refine R_aload z72_0 rfl ?_
  refine R_aload z72_1 rfl ?_
  refine R_iload z72_2 rfl ?_
  refine R_cv z72_3 (k := 65) (by decide +kernel) rfl rfl (by decide +kernel) (Nat.le_of_ble_eq_true (by rfl)) rfl ⟨rfl, trivial⟩ ?_
  refine s65 hW.1 hW.2.1 (fun c2 e2 l2 => absurd hbad (ncb e2 l2 hW.2.1)) (fun _ => jBk_ret rfl ⟨rfl, rfl⟩ ?_)
  refine R_if z72_6 (tn := 13) rfl (fun q => absurd (show ¬ (0 : Int32) = 0 from q) (by decide)) (fun _ => ?_)
  refine R_iconst z72_9 (v := 1) (by decide) ?_
  refine R_goto z72_10 (tn := 14) rfl ?_
  refine R_iload z72_14 rfl ?_
  refine R_iconst z72_15 (v := 0) (by decide) ?_
  refine R_bipush z72_16 (v := 10) (by decide) ?_
  refine R_cs z72_18 (k := 64) (kind := 1) (by decide +kernel) (by decide) rfl rfl (by decide +kernel) (Nat.le_of_ble_eq_true (by rfl)) rfl ?_
  refine s64 (fun g => jBk_ret rfl ⟨rfl, rfl⟩ ?_) (fun g => jBk_ret rfl ⟨rfl, rfl⟩ ?_)
  · refine R_if z72_21 (tn := 28) rfl (fun _ => ?_) (fun q => absurd (show ¬ (1 : Int32) = 0 by decide) q)
    refine R_iconst z72_28 (v := 0) (by decide) ?_
    refine R_iconst z72_29 (v := 0) (by decide) ?_
    refine R_iconst z72_30 (v := 0) (by decide) ?_
    refine R_cv z72_31 (k := 63) (by decide +kernel) rfl rfl (by decide +kernel) (Nat.le_of_ble_eq_true (by rfl)) rfl ⟨rfl, trivial⟩ ?_
    refine s63 (fun q => absurd q (by decide)) (fun _ => jBk_ret rfl ⟨rfl, rfl⟩ ?_)
    refine R_if z72_34 (tn := 38) rfl (fun q => absurd (show (1 : Int32) = 0 from q) (by decide)) (fun _ => ?_)
    exact R_vret z72_37 ⟨Nat.zero_le _, Nat.zero_le _⟩ (hQ)
  · refine R_if z72_21 (tn := 28) rfl (fun q => absurd (show ¬ (0 : Int32) = 0 from q) (by decide)) (fun _ => ?_)
    refine R_iconst z72_24 (v := 1) (by decide) ?_
    refine R_goto z72_25 (tn := 29) rfl ?_
    refine R_iconst z72_29 (v := 0) (by decide) ?_
    refine R_iconst z72_30 (v := 0) (by decide) ?_
    refine R_cv z72_31 (k := 63) (by decide +kernel) rfl rfl (by decide +kernel) (Nat.le_of_ble_eq_true (by rfl)) rfl ⟨rfl, trivial⟩ ?_
    refine s63 (fun q => absurd q (by decide)) (fun _ => jBk_ret rfl ⟨rfl, rfl⟩ ?_)
    refine R_if z72_34 (tn := 38) rfl (fun q => absurd (show (1 : Int32) = 0 from q) (by decide)) (fun _ => ?_)
    exact R_vret z72_37 ⟨Nat.zero_le _, Nat.zero_le _⟩ (hQ)
theorem s72 {l : Launch} {E : jEnv} {A : Nat → Nat → Int32} {V : Nat → Int32} {O : Nat → Int64} {Q : jO → List jC → Prop} {m : Int32} {c n r : Nat} (hW : mWf A V n r) (hcn : c < n) (hc : c < 16) (hI : ¬ jrg m 0 10 → Q (.inl none) (hp A (va_up V 6 2) O)) (hQ : jrg m 0 10 → Q (.inl none) (hp (va_up A 29 (upd (A 29) c m)) (va_up V 6 0) O)) : GO l E 72 0 [some (.ref 25), some (.int (nI c)), some (.int m)] [] (hp A V O) 0 0 Q := by
  refine R_aload z72_0 rfl ?_
  refine R_aload z72_1 rfl ?_
  refine R_iload z72_2 rfl ?_
  refine R_cv z72_3 (k := 65) (by decide +kernel) rfl rfl (by decide +kernel) (Nat.le_of_ble_eq_true (by rfl)) rfl ⟨rfl, trivial⟩ ?_
  refine s65 hW.1 hW.2.1 (fun _ _ _ => jBk_ret rfl ⟨rfl, rfl⟩ ?_) (fun g => absurd g (ncb rfl hcn hW.2.1))
  refine R_if z72_6 (tn := 13) rfl (fun _ => ?_) (fun q => absurd (show ¬ (1 : Int32) = 0 by decide) q)
  refine R_iconst z72_13 (v := 0) (by decide) ?_
  refine R_iload z72_14 rfl ?_
  refine R_iconst z72_15 (v := 0) (by decide) ?_
  refine R_bipush z72_16 (v := 10) (by decide) ?_
  refine R_cs z72_18 (k := 64) (kind := 1) (by decide +kernel) (by decide) rfl rfl (by decide +kernel) (Nat.le_of_ble_eq_true (by rfl)) rfl ?_
  refine s64 (fun g => jBk_ret rfl ⟨rfl, rfl⟩ ?_) (fun g => jBk_ret rfl ⟨rfl, rfl⟩ ?_)
  · refine R_if z72_21 (tn := 28) rfl (fun _ => ?_) (fun q => absurd (show ¬ (1 : Int32) = 0 by decide) q)
    refine R_iconst z72_28 (v := 0) (by decide) ?_
    refine R_iconst z72_29 (v := 0) (by decide) ?_
    refine R_iconst z72_30 (v := 0) (by decide) ?_
    refine R_cv z72_31 (k := 63) (by decide +kernel) rfl rfl (by decide +kernel) (Nat.le_of_ble_eq_true (by rfl)) rfl ⟨rfl, trivial⟩ ?_
    refine s63 (fun _ => jBk_ret rfl ⟨rfl, rfl⟩ ?_) (fun q => absurd rfl q)
    refine R_if z72_34 (tn := 38) rfl (fun _ => ?_) (fun q => absurd (show (0 : Int32) = 0 by decide) q)
    refine R_aload z72_38 rfl ?_
    refine R_get z72_39 (k := 4) (f := 7) (by decide +kernel) rfl rfl ?_
    refine R_iload z72_42 rfl ?_
    refine R_iload z72_43 rfl ?_
    refine R_ist z72_44 (n := 16) (f := A 29) (h' := hp (va_up A 29 (upd (A 29) c m)) (va_up V 6 0) O) rfl (nin hc (by decide)) (by rw [ncl (by omega)]; rfl) ?_
    exact R_vret z72_45 ⟨Nat.zero_le _, Nat.zero_le _⟩ (hQ g)
  · refine R_if z72_21 (tn := 28) rfl (fun q => absurd (show ¬ (0 : Int32) = 0 from q) (by decide)) (fun _ => ?_)
    refine R_iconst z72_24 (v := 1) (by decide) ?_
    refine R_goto z72_25 (tn := 29) rfl ?_
    refine R_iconst z72_29 (v := 0) (by decide) ?_
    refine R_iconst z72_30 (v := 0) (by decide) ?_
    refine R_cv z72_31 (k := 63) (by decide +kernel) rfl rfl (by decide +kernel) (Nat.le_of_ble_eq_true (by rfl)) rfl ⟨rfl, trivial⟩ ?_
    refine s63 (fun q => absurd q (by decide)) (fun _ => jBk_ret rfl ⟨rfl, rfl⟩ ?_)
    refine R_if z72_34 (tn := 38) rfl (fun q => absurd (show (1 : Int32) = 0 from q) (by decide)) (fun _ => ?_)
    exact R_vret z72_37 ⟨Nat.zero_le _, Nat.zero_le _⟩ (hI g)
theorem s86x {l : Launch} {E : jEnv} {A : Nat → Nat → Int32} {V : Nat → Int32} {O : Nat → Int64} {Q : jO → List jC → Prop} {p c d : Int32} { n r : Nat} (hW : mWf A V n r) (hbad : (p < 0 ∨ ¬ p < 20 ∨ c < 0 ∨ ¬ c < nI n)) (hQ : Q (.inl (some (.int 0))) (hp A (va_up V 6 1) O)) : GO l E 86 0 [some (.ref 25), some (.int p), some (.int c), some (.int d)] [] (hp A V O) 0 0 Q := by
  refine R_aload z86_0 rfl ?_
  refine R_aload z86_1 rfl ?_
  refine R_iload z86_2 rfl ?_
  refine R_iload z86_3 rfl ?_
  refine R_cv z86_4 (k := 66) (by decide +kernel) rfl rfl (by decide +kernel) (Nat.le_of_ble_eq_true (by rfl)) rfl ⟨rfl, trivial⟩ ?_
  refine s66 hW.1 hW.2.1 (fun p2 c2 e1 e2 l1 l2 => absurd hbad (npb e1 e2 l1 l2 hW.2.1)) (fun _ => jBk_ret rfl ⟨rfl, rfl⟩ ?_)
  refine R_if z86_7 (tn := 14) rfl (fun q => absurd (show ¬ (0 : Int32) = 0 from q) (by decide)) (fun _ => ?_)
  refine R_iconst z86_10 (v := 1) (by decide) ?_
  refine R_goto z86_11 (tn := 15) rfl ?_
  refine R_iload z86_15 rfl ?_
  refine R_iconst z86_16 (v := 0) (by decide) ?_
  refine R_sipush z86_17 (v := 9999) (by decide) ?_
  refine R_cs z86_20 (k := 64) (kind := 1) (by decide +kernel) (by decide) rfl rfl (by decide +kernel) (Nat.le_of_ble_eq_true (by rfl)) rfl ?_
  refine s64 (fun g => jBk_ret rfl ⟨rfl, rfl⟩ ?_) (fun g => jBk_ret rfl ⟨rfl, rfl⟩ ?_)
  · refine R_if z86_23 (tn := 30) rfl (fun _ => ?_) (fun q => absurd (show ¬ (1 : Int32) = 0 by decide) q)
    refine R_iconst z86_30 (v := 0) (by decide) ?_
    refine R_iconst z86_31 (v := 0) (by decide) ?_
    refine R_iconst z86_32 (v := 0) (by decide) ?_
    refine R_cv z86_33 (k := 63) (by decide +kernel) rfl rfl (by decide +kernel) (Nat.le_of_ble_eq_true (by rfl)) rfl ⟨rfl, trivial⟩ ?_
    refine s63 (fun q => absurd q (by decide)) (fun _ => jBk_ret rfl ⟨rfl, rfl⟩ ?_)
    refine R_if z86_36 (tn := 41) rfl (fun q => absurd (show (1 : Int32) = 0 from q) (by decide)) (fun _ => ?_)
    refine R_iconst z86_39 (v := 0) (by decide) ?_
    exact R_iret z86_40 (Or.inr (by decide)) ⟨Nat.zero_le _, Nat.zero_le _⟩ (hQ)
  · refine R_if z86_23 (tn := 30) rfl (fun q => absurd (show ¬ (0 : Int32) = 0 from q) (by decide)) (fun _ => ?_)
    refine R_iconst z86_26 (v := 1) (by decide) ?_
    refine R_goto z86_27 (tn := 31) rfl ?_
    refine R_iconst z86_31 (v := 0) (by decide) ?_
    refine R_iconst z86_32 (v := 0) (by decide) ?_
    refine R_cv z86_33 (k := 63) (by decide +kernel) rfl rfl (by decide +kernel) (Nat.le_of_ble_eq_true (by rfl)) rfl ⟨rfl, trivial⟩ ?_
    refine s63 (fun q => absurd q (by decide)) (fun _ => jBk_ret rfl ⟨rfl, rfl⟩ ?_)
    refine R_if z86_36 (tn := 41) rfl (fun q => absurd (show (1 : Int32) = 0 from q) (by decide)) (fun _ => ?_)
    refine R_iconst z86_39 (v := 0) (by decide) ?_
    exact R_iret z86_40 (Or.inr (by decide)) ⟨Nat.zero_le _, Nat.zero_le _⟩ (hQ)
theorem s86 {l : Launch} {E : jEnv} {A : Nat → Nat → Int32} {V : Nat → Int32} {O : Nat → Int64} {Q : jO → List jC → Prop} {d : Int32} {p c n r : Nat} (hW : mWf A V n r) (hp2 : p < 20) (hcn : c < n) (hc : c < 16) (hI : ¬ jrg d 0 9999 → Q (.inl (some (.int 0))) (hp A (va_up V 6 2) O)) (h1 : jrg d 0 9999 → mHeld A r (nI p) (nI c) d → Q (.inl (some (.int 1))) (hp A (va_up V 6 0) O)) (h0 : jrg d 0 9999 → ¬ mHeld A r (nI p) (nI c) d → Q (.inl (some (.int 0))) (hp A (va_up V 6 0) O)) : GO l E 86 0 [some (.ref 25), some (.int (nI p)), some (.int (nI c)), some (.int d)] [] (hp A V O) 0 0 Q := by
  refine R_aload z86_0 rfl ?_
  refine R_aload z86_1 rfl ?_
  refine R_iload z86_2 rfl ?_
  refine R_iload z86_3 rfl ?_
  refine R_cv z86_4 (k := 66) (by decide +kernel) rfl rfl (by decide +kernel) (Nat.le_of_ble_eq_true (by rfl)) rfl ⟨rfl, trivial⟩ ?_
  refine s66 hW.1 hW.2.1 (fun _ _ _ _ _ _ => jBk_ret rfl ⟨rfl, rfl⟩ ?_) (fun g => absurd g (npb rfl rfl hp2 hcn hW.2.1))
  refine R_if z86_7 (tn := 14) rfl (fun _ => ?_) (fun q => absurd (show ¬ (1 : Int32) = 0 by decide) q)
  refine R_iconst z86_14 (v := 0) (by decide) ?_
  refine R_iload z86_15 rfl ?_
  refine R_iconst z86_16 (v := 0) (by decide) ?_
  refine R_sipush z86_17 (v := 9999) (by decide) ?_
  refine R_cs z86_20 (k := 64) (kind := 1) (by decide +kernel) (by decide) rfl rfl (by decide +kernel) (Nat.le_of_ble_eq_true (by rfl)) rfl ?_
  refine s64 (fun g => jBk_ret rfl ⟨rfl, rfl⟩ ?_) (fun g => jBk_ret rfl ⟨rfl, rfl⟩ ?_)
  · refine R_if z86_23 (tn := 30) rfl (fun _ => ?_) (fun q => absurd (show ¬ (1 : Int32) = 0 by decide) q)
    refine R_iconst z86_30 (v := 0) (by decide) ?_
    refine R_iconst z86_31 (v := 0) (by decide) ?_
    refine R_iconst z86_32 (v := 0) (by decide) ?_
    refine R_cv z86_33 (k := 63) (by decide +kernel) rfl rfl (by decide +kernel) (Nat.le_of_ble_eq_true (by rfl)) rfl ⟨rfl, trivial⟩ ?_
    refine s63 (fun _ => jBk_ret rfl ⟨rfl, rfl⟩ ?_) (fun q => absurd rfl q)
    refine R_if z86_36 (tn := 41) rfl (fun _ => ?_) (fun q => absurd (show (0 : Int32) = 0 by decide) q)
    refine R_aload z86_41 rfl ?_
    refine R_iload z86_42 rfl ?_
    refine R_iload z86_43 rfl ?_
    refine R_iload z86_44 rfl ?_
    refine R_cv z86_45 (k := 75) (by decide +kernel) rfl rfl (by decide +kernel) (Nat.le_of_ble_eq_true (by rfl)) rfl ⟨rfl, trivial⟩ ?_
    refine s75 (show mWf A (va_up V 6 0) n r from hW) (fun g2 => jBk_ret rfl ⟨rfl, rfl⟩ ?_) (fun g2 => jBk_ret rfl ⟨rfl, rfl⟩ ?_)
    · exact R_iret z86_48 (Or.inr (by decide)) ⟨Nat.zero_le _, Nat.zero_le _⟩ (h1 g g2)
    · exact R_iret z86_48 (Or.inr (by decide)) ⟨Nat.zero_le _, Nat.zero_le _⟩ (h0 g g2)
  · refine R_if z86_23 (tn := 30) rfl (fun q => absurd (show ¬ (0 : Int32) = 0 from q) (by decide)) (fun _ => ?_)
    refine R_iconst z86_26 (v := 1) (by decide) ?_
    refine R_goto z86_27 (tn := 31) rfl ?_
    refine R_iconst z86_31 (v := 0) (by decide) ?_
    refine R_iconst z86_32 (v := 0) (by decide) ?_
    refine R_cv z86_33 (k := 63) (by decide +kernel) rfl rfl (by decide +kernel) (Nat.le_of_ble_eq_true (by rfl)) rfl ⟨rfl, trivial⟩ ?_
    refine s63 (fun q => absurd q (by decide)) (fun _ => jBk_ret rfl ⟨rfl, rfl⟩ ?_)
    refine R_if z86_36 (tn := 41) rfl (fun q => absurd (show (1 : Int32) = 0 from q) (by decide)) (fun _ => ?_)
    refine R_iconst z86_39 (v := 0) (by decide) ?_
    exact R_iret z86_40 (Or.inr (by decide)) ⟨Nat.zero_le _, Nat.zero_le _⟩ (hI g)
theorem s84_0x {l : Launch} {E : jEnv} {A : Nat → Nat → Int32} {V : Nat → Int32} {O : Nat → Int64} {Q : jO → List jC → Prop} {p c : Int32} { n r : Nat} (hW : mWf A V n r) (hbad : (p < 0 ∨ ¬ p < 20 ∨ c < 0 ∨ ¬ c < nI n)) (hQ : Q (.inl none) (hp A (va_up V 6 1) O)) : GO l E 84 0 [some (.ref 25), some (.int p), some (.int c), some (.int 0), none] [] (hp A V O) 0 0 Q := by
  refine R_aload z84_0 rfl ?_
  refine R_iload z84_1 rfl ?_
  refine R_iload z84_2 rfl ?_
  refine R_cv z84_3 (k := 66) (by decide +kernel) rfl rfl (by decide +kernel) (Nat.le_of_ble_eq_true (by rfl)) rfl ⟨rfl, trivial⟩ ?_
  refine s66 hW.1 hW.2.1 (fun p2 c2 e1 e2 l1 l2 => absurd hbad (npb e1 e2 l1 l2 hW.2.1)) (fun _ => jBk_ret rfl ⟨rfl, rfl⟩ ?_)
  refine R_if z84_6 (tn := 13) rfl (fun q => absurd (show ¬ (0 : Int32) = 0 from q) (by decide)) (fun _ => ?_)
  refine R_iconst z84_9 (v := 1) (by decide) ?_
  refine R_goto z84_10 (tn := 14) rfl ?_
  refine R_istore z84_14 (loc' := [some (.ref 25), some (.int p), some (.int c), some (.int 0), some (.int 1)]) rfl rfl ?_
  refine R_aload z84_16 rfl ?_
  refine R_iload z84_17 rfl ?_
  refine R_iload z84_19 rfl ?_
  refine R_if z84_21 (tn := 60) rfl (fun _ => ?_) (fun q => absurd (show ¬ (1 : Int32) = 0 by decide) q)
  refine R_iconst z84_60 (v := 0) (by decide) ?_
  refine R_iconst z84_61 (v := 0) (by decide) ?_
  refine R_iconst z84_62 (v := 0) (by decide) ?_
  refine R_cv z84_63 (k := 63) (by decide +kernel) rfl rfl (by decide +kernel) (Nat.le_of_ble_eq_true (by rfl)) rfl ⟨rfl, trivial⟩ ?_
  refine s63 (fun q => absurd q (by decide)) (fun _ => jBk_ret rfl ⟨rfl, rfl⟩ ?_)
  refine R_if z84_66 (tn := 70) rfl (fun q => absurd (show (1 : Int32) = 0 from q) (by decide)) (fun _ => ?_)
  exact R_vret z84_69 ⟨Nat.zero_le _, Nat.zero_le _⟩ (hQ)
theorem s84_0 {l : Launch} {E : jEnv} {A : Nat → Nat → Int32} {V : Nat → Int32} {O : Nat → Int64} {Q : jO → List jC → Prop} {p c n r : Nat} (hW : mWf A V n r) (hp2 : p < 20) (hcn : c < n) (hc : c < 16) (hS : A 31 (16 * p + c) = 0 → Q (.inl none) (hp A (va_up V 6 2) O)) (hQ : ¬ A 31 (16 * p + c) = 0 → Q (.inl none) (hp (va_up A 31 (upd (A 31) (16 * p + c) 0)) (va_up V 6 0) O)) : GO l E 84 0 [some (.ref 25), some (.int (nI p)), some (.int (nI c)), some (.int 0), none] [] (hp A V O) 0 0 Q := by
  refine R_aload z84_0 rfl ?_
  refine R_iload z84_1 rfl ?_
  refine R_iload z84_2 rfl ?_
  refine R_cv z84_3 (k := 66) (by decide +kernel) rfl rfl (by decide +kernel) (Nat.le_of_ble_eq_true (by rfl)) rfl ⟨rfl, trivial⟩ ?_
  refine s66 hW.1 hW.2.1 (fun _ _ _ _ _ _ => jBk_ret rfl ⟨rfl, rfl⟩ ?_) (fun g => absurd g (npb rfl rfl hp2 hcn hW.2.1))
  refine R_if z84_6 (tn := 13) rfl (fun _ => ?_) (fun q => absurd (show ¬ (1 : Int32) = 0 by decide) q)
  refine R_iconst z84_13 (v := 0) (by decide) ?_
  refine R_istore z84_14 (loc' := [some (.ref 25), some (.int (nI p)), some (.int (nI c)), some (.int 0), some (.int 0)]) rfl rfl ?_
  refine R_aload z84_16 rfl ?_
  refine R_iload z84_17 rfl ?_
  refine R_iload z84_19 rfl ?_
  refine R_if z84_21 (tn := 60) rfl (fun q => absurd (show ¬ (0 : Int32) = 0 from q) (by decide)) (fun _ => ?_)
  refine R_aload z84_24 rfl ?_
  refine R_get z84_25 (k := 4) (f := 9) (by decide +kernel) rfl rfl ?_
  refine R_bipush z84_28 (v := 16) (by decide) ?_
  refine R_iload z84_30 rfl ?_
  refine R_imul z84_31 ?_
  refine R_iload z84_32 rfl ?_
  refine R_iadd z84_33 ?_
  refine R_top (y := nI (16 * p + c)) (mp16 p c) ?_
  refine R_zld z84_34 (n := 320) (f := A 31) (v := (A 31 (16 * p + c))) rfl (nin (by omega) (by decide)) (by rw [ncl (by omega)]) ?_
  refine R_iload z84_35 rfl ?_
  refine R_icmp z84_36 (tn := 56) rfl (fun (h36 : ((A 31 (16 * p + c)) : Int32) = 0) => ?_) (fun (h36 : ¬ ((A 31 (16 * p + c)) : Int32) = 0) => ?_)
  · refine R_iconst z84_56 (v := 1) (by decide) ?_
    refine R_goto z84_57 (tn := 61) rfl ?_
    refine R_iconst z84_61 (v := 0) (by decide) ?_
    refine R_iconst z84_62 (v := 0) (by decide) ?_
    refine R_cv z84_63 (k := 63) (by decide +kernel) rfl rfl (by decide +kernel) (Nat.le_of_ble_eq_true (by rfl)) rfl ⟨rfl, trivial⟩ ?_
    refine s63 (fun q => absurd q (by decide)) (fun _ => jBk_ret rfl ⟨rfl, rfl⟩ ?_)
    refine R_if z84_66 (tn := 70) rfl (fun q => absurd (show (1 : Int32) = 0 from q) (by decide)) (fun _ => ?_)
    exact R_vret z84_69 ⟨Nat.zero_le _, Nat.zero_le _⟩ (hS h36)
  · refine R_iload z84_39 rfl ?_
    refine R_if z84_40 (tn := 60) rfl (fun _ => ?_) (fun q => absurd (show (0 : Int32) = 0 by decide) q)
    refine R_iconst z84_60 (v := 0) (by decide) ?_
    refine R_iconst z84_61 (v := 0) (by decide) ?_
    refine R_iconst z84_62 (v := 0) (by decide) ?_
    refine R_cv z84_63 (k := 63) (by decide +kernel) rfl rfl (by decide +kernel) (Nat.le_of_ble_eq_true (by rfl)) rfl ⟨rfl, trivial⟩ ?_
    refine s63 (fun _ => jBk_ret rfl ⟨rfl, rfl⟩ ?_) (fun q => absurd rfl q)
    refine R_if z84_66 (tn := 70) rfl (fun _ => ?_) (fun q => absurd (show (0 : Int32) = 0 by decide) q)
    refine R_aload z84_70 rfl ?_
    refine R_get z84_71 (k := 4) (f := 9) (by decide +kernel) rfl rfl ?_
    refine R_bipush z84_74 (v := 16) (by decide) ?_
    refine R_iload z84_76 rfl ?_
    refine R_imul z84_77 ?_
    refine R_iload z84_78 rfl ?_
    refine R_iadd z84_79 ?_
    refine R_top (y := nI (16 * p + c)) (mp16 p c) ?_
    refine R_iload z84_80 rfl ?_
    refine R_zst z84_81 (n := 320) (f := A 31) (h' := hp (va_up A 31 (upd (A 31) (16 * p + c) 0)) (va_up V 6 0) O) rfl (nin (by omega) (by decide)) (by rw [ncl (by omega)]; rfl) ?_
    exact R_vret z84_82 ⟨Nat.zero_le _, Nat.zero_le _⟩ (hQ h36)
theorem s84_1x {l : Launch} {E : jEnv} {A : Nat → Nat → Int32} {V : Nat → Int32} {O : Nat → Int64} {Q : jO → List jC → Prop} {p c : Int32} { n r : Nat} (hW : mWf A V n r) (hbad : (p < 0 ∨ ¬ p < 20 ∨ c < 0 ∨ ¬ c < nI n)) (hQ : Q (.inl none) (hp A (va_up V 6 1) O)) : GO l E 84 0 [some (.ref 25), some (.int p), some (.int c), some (.int 1), none] [] (hp A V O) 0 0 Q := by
  refine R_aload z84_0 rfl ?_
  refine R_iload z84_1 rfl ?_
  refine R_iload z84_2 rfl ?_
  refine R_cv z84_3 (k := 66) (by decide +kernel) rfl rfl (by decide +kernel) (Nat.le_of_ble_eq_true (by rfl)) rfl ⟨rfl, trivial⟩ ?_
  refine s66 hW.1 hW.2.1 (fun p2 c2 e1 e2 l1 l2 => absurd hbad (npb e1 e2 l1 l2 hW.2.1)) (fun _ => jBk_ret rfl ⟨rfl, rfl⟩ ?_)
  refine R_if z84_6 (tn := 13) rfl (fun q => absurd (show ¬ (0 : Int32) = 0 from q) (by decide)) (fun _ => ?_)
  refine R_iconst z84_9 (v := 1) (by decide) ?_
  refine R_goto z84_10 (tn := 14) rfl ?_
  refine R_istore z84_14 (loc' := [some (.ref 25), some (.int p), some (.int c), some (.int 1), some (.int 1)]) rfl rfl ?_
  refine R_aload z84_16 rfl ?_
  refine R_iload z84_17 rfl ?_
  refine R_iload z84_19 rfl ?_
  refine R_if z84_21 (tn := 60) rfl (fun _ => ?_) (fun q => absurd (show ¬ (1 : Int32) = 0 by decide) q)
  refine R_iconst z84_60 (v := 0) (by decide) ?_
  refine R_iconst z84_61 (v := 0) (by decide) ?_
  refine R_iconst z84_62 (v := 0) (by decide) ?_
  refine R_cv z84_63 (k := 63) (by decide +kernel) rfl rfl (by decide +kernel) (Nat.le_of_ble_eq_true (by rfl)) rfl ⟨rfl, trivial⟩ ?_
  refine s63 (fun q => absurd q (by decide)) (fun _ => jBk_ret rfl ⟨rfl, rfl⟩ ?_)
  refine R_if z84_66 (tn := 70) rfl (fun q => absurd (show (1 : Int32) = 0 from q) (by decide)) (fun _ => ?_)
  exact R_vret z84_69 ⟨Nat.zero_le _, Nat.zero_le _⟩ (hQ)
theorem s84_1 {l : Launch} {E : jEnv} {A : Nat → Nat → Int32} {V : Nat → Int32} {O : Nat → Int64} {Q : jO → List jC → Prop} {p c n r : Nat} (hW : mWf A V n r) (hp2 : p < 20) (hcn : c < n) (hc : c < 16) (hS : (A 31 (16 * p + c) = 1 ∨ ¬ mHeld A r (nI p) (nI c) (V 7)) → Q (.inl none) (hp A (va_up V 6 2) O)) (hQ : ¬ A 31 (16 * p + c) = 1 → mHeld A r (nI p) (nI c) (V 7) → Q (.inl none) (hp (va_up A 31 (upd (A 31) (16 * p + c) 1)) (va_up V 6 0) O)) : GO l E 84 0 [some (.ref 25), some (.int (nI p)), some (.int (nI c)), some (.int 1), none] [] (hp A V O) 0 0 Q := by
  refine R_aload z84_0 rfl ?_
  refine R_iload z84_1 rfl ?_
  refine R_iload z84_2 rfl ?_
  refine R_cv z84_3 (k := 66) (by decide +kernel) rfl rfl (by decide +kernel) (Nat.le_of_ble_eq_true (by rfl)) rfl ⟨rfl, trivial⟩ ?_
  refine s66 hW.1 hW.2.1 (fun _ _ _ _ _ _ => jBk_ret rfl ⟨rfl, rfl⟩ ?_) (fun g => absurd g (npb rfl rfl hp2 hcn hW.2.1))
  refine R_if z84_6 (tn := 13) rfl (fun _ => ?_) (fun q => absurd (show ¬ (1 : Int32) = 0 by decide) q)
  refine R_iconst z84_13 (v := 0) (by decide) ?_
  refine R_istore z84_14 (loc' := [some (.ref 25), some (.int (nI p)), some (.int (nI c)), some (.int 1), some (.int 0)]) rfl rfl ?_
  refine R_aload z84_16 rfl ?_
  refine R_iload z84_17 rfl ?_
  refine R_iload z84_19 rfl ?_
  refine R_if z84_21 (tn := 60) rfl (fun q => absurd (show ¬ (0 : Int32) = 0 from q) (by decide)) (fun _ => ?_)
  refine R_aload z84_24 rfl ?_
  refine R_get z84_25 (k := 4) (f := 9) (by decide +kernel) rfl rfl ?_
  refine R_bipush z84_28 (v := 16) (by decide) ?_
  refine R_iload z84_30 rfl ?_
  refine R_imul z84_31 ?_
  refine R_iload z84_32 rfl ?_
  refine R_iadd z84_33 ?_
  refine R_top (y := nI (16 * p + c)) (mp16 p c) ?_
  refine R_zld z84_34 (n := 320) (f := A 31) (v := (A 31 (16 * p + c))) rfl (nin (by omega) (by decide)) (by rw [ncl (by omega)]) ?_
  refine R_iload z84_35 rfl ?_
  refine R_icmp z84_36 (tn := 56) rfl (fun (h36 : ((A 31 (16 * p + c)) : Int32) = 1) => ?_) (fun (h36 : ¬ ((A 31 (16 * p + c)) : Int32) = 1) => ?_)
  · refine R_iconst z84_56 (v := 1) (by decide) ?_
    refine R_goto z84_57 (tn := 61) rfl ?_
    refine R_iconst z84_61 (v := 0) (by decide) ?_
    refine R_iconst z84_62 (v := 0) (by decide) ?_
    refine R_cv z84_63 (k := 63) (by decide +kernel) rfl rfl (by decide +kernel) (Nat.le_of_ble_eq_true (by rfl)) rfl ⟨rfl, trivial⟩ ?_
    refine s63 (fun q => absurd q (by decide)) (fun _ => jBk_ret rfl ⟨rfl, rfl⟩ ?_)
    refine R_if z84_66 (tn := 70) rfl (fun q => absurd (show (1 : Int32) = 0 from q) (by decide)) (fun _ => ?_)
    exact R_vret z84_69 ⟨Nat.zero_le _, Nat.zero_le _⟩ (hS (Or.inl h36))
  · refine R_iload z84_39 rfl ?_
    refine R_if z84_40 (tn := 60) rfl (fun q => absurd (show (1 : Int32) = 0 from q) (by decide)) (fun _ => ?_)
    refine R_aload z84_43 rfl ?_
    refine R_iload z84_44 rfl ?_
    refine R_iload z84_45 rfl ?_
    refine R_aload z84_46 rfl ?_
    refine R_get z84_47 (k := 4) (f := 1) (by decide +kernel) rfl rfl ?_
    refine R_cv z84_50 (k := 75) (by decide +kernel) rfl rfl (by decide +kernel) (Nat.le_of_ble_eq_true (by rfl)) rfl ⟨rfl, trivial⟩ ?_
    refine s75 hW (fun g => jBk_ret rfl ⟨rfl, rfl⟩ ?_) (fun g => jBk_ret rfl ⟨rfl, rfl⟩ ?_)
    · refine R_if z84_53 (tn := 60) rfl (fun _ => ?_) (fun q => absurd (show ¬ (1 : Int32) = 0 by decide) q)
      refine R_iconst z84_60 (v := 0) (by decide) ?_
      refine R_iconst z84_61 (v := 0) (by decide) ?_
      refine R_iconst z84_62 (v := 0) (by decide) ?_
      refine R_cv z84_63 (k := 63) (by decide +kernel) rfl rfl (by decide +kernel) (Nat.le_of_ble_eq_true (by rfl)) rfl ⟨rfl, trivial⟩ ?_
      refine s63 (fun _ => jBk_ret rfl ⟨rfl, rfl⟩ ?_) (fun q => absurd rfl q)
      refine R_if z84_66 (tn := 70) rfl (fun _ => ?_) (fun q => absurd (show (0 : Int32) = 0 by decide) q)
      refine R_aload z84_70 rfl ?_
      refine R_get z84_71 (k := 4) (f := 9) (by decide +kernel) rfl rfl ?_
      refine R_bipush z84_74 (v := 16) (by decide) ?_
      refine R_iload z84_76 rfl ?_
      refine R_imul z84_77 ?_
      refine R_iload z84_78 rfl ?_
      refine R_iadd z84_79 ?_
      refine R_top (y := nI (16 * p + c)) (mp16 p c) ?_
      refine R_iload z84_80 rfl ?_
      refine R_zst z84_81 (n := 320) (f := A 31) (h' := hp (va_up A 31 (upd (A 31) (16 * p + c) 1)) (va_up V 6 0) O) rfl (nin (by omega) (by decide)) (by rw [ncl (by omega)]; rfl) ?_
      exact R_vret z84_82 ⟨Nat.zero_le _, Nat.zero_le _⟩ (hQ h36 g)
    · refine R_if z84_53 (tn := 60) rfl (fun q => absurd (show ¬ (0 : Int32) = 0 from q) (by decide)) (fun _ => ?_)
      refine R_iconst z84_56 (v := 1) (by decide) ?_
      refine R_goto z84_57 (tn := 61) rfl ?_
      refine R_iconst z84_61 (v := 0) (by decide) ?_
      refine R_iconst z84_62 (v := 0) (by decide) ?_
      refine R_cv z84_63 (k := 63) (by decide +kernel) rfl rfl (by decide +kernel) (Nat.le_of_ble_eq_true (by rfl)) rfl ⟨rfl, trivial⟩ ?_
      refine s63 (fun q => absurd q (by decide)) (fun _ => jBk_ret rfl ⟨rfl, rfl⟩ ?_)
      refine R_if z84_66 (tn := 70) rfl (fun q => absurd (show (1 : Int32) = 0 from q) (by decide)) (fun _ => ?_)
      exact R_vret z84_69 ⟨Nat.zero_le _, Nat.zero_le _⟩ (hS (Or.inr g))
theorem s82x {l : Launch} {E : jEnv} {A : Nat → Nat → Int32} {V : Nat → Int32} {O : Nat → Int64} {Q : jO → List jC → Prop} {p c mk : Int32} { n r : Nat} (hW : mWf A V n r) (hbad : (p < 0 ∨ ¬ p < 20 ∨ c < 0 ∨ ¬ c < nI n)) (hQ : Q (.inl (some (.int 0))) (hp A (va_up V 6 1) O)) : GO l E 82 0 [some (.ref 25), some (.int p), some (.int c), some (.int mk), none, none] [] (hp A V O) 0 0 Q := by
  refine R_aload z82_0 rfl ?_
  refine R_iload z82_1 rfl ?_
  refine R_iload z82_2 rfl ?_
  refine R_cv z82_3 (k := 66) (by decide +kernel) rfl rfl (by decide +kernel) (Nat.le_of_ble_eq_true (by rfl)) rfl ⟨rfl, trivial⟩ ?_
  refine s66 hW.1 hW.2.1 (fun p2 c2 e1 e2 l1 l2 => absurd hbad (npb e1 e2 l1 l2 hW.2.1)) (fun _ => jBk_ret rfl ⟨rfl, rfl⟩ ?_)
  refine R_if z82_6 (tn := 13) rfl (fun q => absurd (show ¬ (0 : Int32) = 0 from q) (by decide)) (fun _ => ?_)
  refine R_iconst z82_9 (v := 1) (by decide) ?_
  refine R_goto z82_10 (tn := 14) rfl ?_
  refine R_istore z82_14 (loc' := [some (.ref 25), some (.int p), some (.int c), some (.int mk), some (.int 1), none]) rfl rfl ?_
  refine R_iload z82_16 rfl ?_
  refine R_iconst z82_17 (v := 0) (by decide) ?_
  refine R_bipush z82_18 (v := 100) (by decide) ?_
  refine R_cs z82_20 (k := 64) (kind := 1) (by decide +kernel) (by decide) rfl rfl (by decide +kernel) (Nat.le_of_ble_eq_true (by rfl)) rfl ?_
  refine s64 (fun g => jBk_ret rfl ⟨rfl, rfl⟩ ?_) (fun g => jBk_ret rfl ⟨rfl, rfl⟩ ?_)
  · refine R_if z82_23 (tn := 30) rfl (fun _ => ?_) (fun q => absurd (show ¬ (1 : Int32) = 0 by decide) q)
    refine R_iconst z82_30 (v := 0) (by decide) ?_
    refine R_istore z82_31 (loc' := [some (.ref 25), some (.int p), some (.int c), some (.int mk), some (.int 1), some (.int 0)]) rfl rfl ?_
    refine R_aload z82_33 rfl ?_
    refine R_iload z82_34 rfl ?_
    refine R_iload z82_36 rfl ?_
    refine R_iload z82_38 rfl ?_
    refine R_if z82_40 (tn := 56) rfl (fun _ => ?_) (fun q => absurd (show ¬ (1 : Int32) = 0 by decide) q)
    refine R_iconst z82_56 (v := 0) (by decide) ?_
    refine R_iload z82_57 rfl ?_
    refine R_if z82_59 (tn := 70) rfl (fun _ => ?_) (fun q => absurd (show ¬ (1 : Int32) = 0 by decide) q)
    refine R_aload z82_70 rfl ?_
    refine R_get z82_71 (k := 4) (f := 10) (by decide +kernel) rfl rfl ?_
    refine R_sipush z82_74 (v := 300) (by decide) ?_
    refine R_icmp z82_77 (tn := 84) rfl (fun (h77 : ¬ ((V 10) : Int32) = 300) => ?_) (fun (h77 : ¬ (¬ ((V 10) : Int32) = 300)) => ?_)
    · refine R_iconst z82_84 (v := 0) (by decide) ?_
      refine R_cv z82_85 (k := 63) (by decide +kernel) rfl rfl (by decide +kernel) (Nat.le_of_ble_eq_true (by rfl)) rfl ⟨rfl, trivial⟩ ?_
      refine s63 (fun q => absurd q (by decide)) (fun _ => jBk_ret rfl ⟨rfl, rfl⟩ ?_)
      refine R_if z82_88 (tn := 93) rfl (fun q => absurd (show (1 : Int32) = 0 from q) (by decide)) (fun _ => ?_)
      refine R_iconst z82_91 (v := 0) (by decide) ?_
      exact R_iret z82_92 (Or.inl (by decide +kernel)) ⟨Nat.zero_le _, Nat.zero_le _⟩ (hQ)
    · refine R_iconst z82_80 (v := 1) (by decide) ?_
      refine R_goto z82_81 (tn := 85) rfl ?_
      refine R_cv z82_85 (k := 63) (by decide +kernel) rfl rfl (by decide +kernel) (Nat.le_of_ble_eq_true (by rfl)) rfl ⟨rfl, trivial⟩ ?_
      refine s63 (fun q => absurd q (by decide)) (fun _ => jBk_ret rfl ⟨rfl, rfl⟩ ?_)
      refine R_if z82_88 (tn := 93) rfl (fun q => absurd (show (1 : Int32) = 0 from q) (by decide)) (fun _ => ?_)
      refine R_iconst z82_91 (v := 0) (by decide) ?_
      exact R_iret z82_92 (Or.inl (by decide +kernel)) ⟨Nat.zero_le _, Nat.zero_le _⟩ (hQ)
  · refine R_if z82_23 (tn := 30) rfl (fun q => absurd (show ¬ (0 : Int32) = 0 from q) (by decide)) (fun _ => ?_)
    refine R_iconst z82_26 (v := 1) (by decide) ?_
    refine R_goto z82_27 (tn := 31) rfl ?_
    refine R_istore z82_31 (loc' := [some (.ref 25), some (.int p), some (.int c), some (.int mk), some (.int 1), some (.int 1)]) rfl rfl ?_
    refine R_aload z82_33 rfl ?_
    refine R_iload z82_34 rfl ?_
    refine R_iload z82_36 rfl ?_
    refine R_iload z82_38 rfl ?_
    refine R_if z82_40 (tn := 56) rfl (fun _ => ?_) (fun q => absurd (show ¬ (1 : Int32) = 0 by decide) q)
    refine R_iconst z82_56 (v := 0) (by decide) ?_
    refine R_iload z82_57 rfl ?_
    refine R_if z82_59 (tn := 70) rfl (fun _ => ?_) (fun q => absurd (show ¬ (1 : Int32) = 0 by decide) q)
    refine R_aload z82_70 rfl ?_
    refine R_get z82_71 (k := 4) (f := 10) (by decide +kernel) rfl rfl ?_
    refine R_sipush z82_74 (v := 300) (by decide) ?_
    refine R_icmp z82_77 (tn := 84) rfl (fun (h77 : ¬ ((V 10) : Int32) = 300) => ?_) (fun (h77 : ¬ (¬ ((V 10) : Int32) = 300)) => ?_)
    · refine R_iconst z82_84 (v := 0) (by decide) ?_
      refine R_cv z82_85 (k := 63) (by decide +kernel) rfl rfl (by decide +kernel) (Nat.le_of_ble_eq_true (by rfl)) rfl ⟨rfl, trivial⟩ ?_
      refine s63 (fun q => absurd q (by decide)) (fun _ => jBk_ret rfl ⟨rfl, rfl⟩ ?_)
      refine R_if z82_88 (tn := 93) rfl (fun q => absurd (show (1 : Int32) = 0 from q) (by decide)) (fun _ => ?_)
      refine R_iconst z82_91 (v := 0) (by decide) ?_
      exact R_iret z82_92 (Or.inl (by decide +kernel)) ⟨Nat.zero_le _, Nat.zero_le _⟩ (hQ)
    · refine R_iconst z82_80 (v := 1) (by decide) ?_
      refine R_goto z82_81 (tn := 85) rfl ?_
      refine R_cv z82_85 (k := 63) (by decide +kernel) rfl rfl (by decide +kernel) (Nat.le_of_ble_eq_true (by rfl)) rfl ⟨rfl, trivial⟩ ?_
      refine s63 (fun q => absurd q (by decide)) (fun _ => jBk_ret rfl ⟨rfl, rfl⟩ ?_)
      refine R_if z82_88 (tn := 93) rfl (fun q => absurd (show (1 : Int32) = 0 from q) (by decide)) (fun _ => ?_)
      refine R_iconst z82_91 (v := 0) (by decide) ?_
      exact R_iret z82_92 (Or.inl (by decide +kernel)) ⟨Nat.zero_le _, Nat.zero_le _⟩ (hQ)
theorem mWhy_lt {A : Nat → Nat → Int32} {V : Nat → Int32} {n r p c : Nat} : mWhy A V n r p c < 20000 := by
  unfold mWhy
  split
  · decide
  · split
    · decide
    · split <;> decide
theorem mWhy_p {A : Nat → Nat → Int32} {V : Nat → Int32} {n r p c : Nat} (h : ¬ nI (mWhy A V n r p c) ≤ 0) : ¬ mWhy A V n r p c = 0 := fun e => h (by rw [e]; decide)
theorem mWhy_z {A : Nat → Nat → Int32} {V : Nat → Int32} {n r p c : Nat} (h : nI (mWhy A V n r p c) ≤ 0) : mWhy A V n r p c = 0 := by
  rcases Nat.eq_zero_or_pos (mWhy A V n r p c) with e | e
  · exact e
  · exact absurd h (nI_nle e (Nat.lt_trans mWhy_lt (by decide)))
theorem r300 {V : Nat → Int32} {r : Nat} (h1 : V 10 = nI r) (h2 : r ≤ 300) (h : ¬ V 10 = 300) : r < 300 := by
  have h9 : ¬ r = 300 := fun z => h (by rw [h1, z]; decide)
  omega
theorem r300n {V : Nat → Int32} {r : Nat} (h1 : V 10 = nI r) (h2 : r ≤ 300) (h : V 10 = 300) : ¬ r < 300 := by
  rw [h1, show (300 : Int32) = nI 300 by decide, nI_eq (by omega) (by omega)] at h
  omega
theorem s82 {l : Launch} {E : jEnv} {A : Nat → Nat → Int32} {V : Nat → Int32} {O : Nat → Int64} {Q : jO → List jC → Prop} {mk : Int32} {p c n r : Nat} (hW : mWf A V n r) (hp2 : p < 20) (hcn : c < n) (hc : c < 16) (hI : ¬ jrg mk 0 100 → Q (.inl (some (.int 0))) (hp A (va_up V 6 2) O)) (hS : jrg mk 0 100 → ¬ mWhy A V n r p c = 0 → Q (.inl (some (.int 0))) (hp A (va_up V 6 3) O)) (hU : jrg mk 0 100 → mWhy A V n r p c = 0 → (mRoom A V r c = 0 ∨ ¬ r < 300) → Q (.inl (some (.int 0))) (hp A (va_up V 6 4) O)) (hQ : ∀ b : Int32, jrg mk 0 100 → mWhy A V n r p c = 0 → ¬ mRoom A V r c = 0 → r < 300 → (b = if mk < A 27 c then 0 else 1) → Q (.inl (some (.int (nI r)))) (hp (mAdd A V r (nI p) (nI c) b) (va_up (va_up V 6 0) 10 (nI (r + 1))) O)) : GO l E 82 0 [some (.ref 25), some (.int (nI p)), some (.int (nI c)), some (.int mk), none, none] [] (hp A V O) 0 0 Q := by
  refine R_aload z82_0 rfl ?_
  refine R_iload z82_1 rfl ?_
  refine R_iload z82_2 rfl ?_
  refine R_cv z82_3 (k := 66) (by decide +kernel) rfl rfl (by decide +kernel) (Nat.le_of_ble_eq_true (by rfl)) rfl ⟨rfl, trivial⟩ ?_
  refine s66 hW.1 hW.2.1 (fun _ _ _ _ _ _ => jBk_ret rfl ⟨rfl, rfl⟩ ?_) (fun g => absurd g (npb rfl rfl hp2 hcn hW.2.1))
  refine R_if z82_6 (tn := 13) rfl (fun _ => ?_) (fun q => absurd (show ¬ (1 : Int32) = 0 by decide) q)
  refine R_iconst z82_13 (v := 0) (by decide) ?_
  refine R_istore z82_14 (loc' := [some (.ref 25), some (.int (nI p)), some (.int (nI c)), some (.int mk), some (.int 0), none]) rfl rfl ?_
  refine R_iload z82_16 rfl ?_
  refine R_iconst z82_17 (v := 0) (by decide) ?_
  refine R_bipush z82_18 (v := 100) (by decide) ?_
  refine R_cs z82_20 (k := 64) (kind := 1) (by decide +kernel) (by decide) rfl rfl (by decide +kernel) (Nat.le_of_ble_eq_true (by rfl)) rfl ?_
  refine s64 (fun g => jBk_ret rfl ⟨rfl, rfl⟩ ?_) (fun g => jBk_ret rfl ⟨rfl, rfl⟩ ?_)
  · refine R_if z82_23 (tn := 30) rfl (fun _ => ?_) (fun q => absurd (show ¬ (1 : Int32) = 0 by decide) q)
    refine R_iconst z82_30 (v := 0) (by decide) ?_
    refine R_istore z82_31 (loc' := [some (.ref 25), some (.int (nI p)), some (.int (nI c)), some (.int mk), some (.int 0), some (.int 0)]) rfl rfl ?_
    refine R_aload z82_33 rfl ?_
    refine R_iload z82_34 rfl ?_
    refine R_iload z82_36 rfl ?_
    refine R_iload z82_38 rfl ?_
    refine R_if z82_40 (tn := 56) rfl (fun q => absurd (show ¬ (0 : Int32) = 0 from q) (by decide)) (fun _ => ?_)
    refine R_aload z82_43 rfl ?_
    refine R_iload z82_44 rfl ?_
    refine R_iload z82_45 rfl ?_
    refine R_cv z82_46 (k := 78) (by decide +kernel) rfl rfl (by decide +kernel) (Nat.le_of_ble_eq_true (by rfl)) rfl ⟨rfl, trivial⟩ ?_
    refine s78 hW hp2 hc (jBk_ret rfl ⟨rfl, rfl⟩ ?_)
    refine R_if z82_49 (tn := 56) rfl (fun (h49 : ((nI (mWhy A V n r p c)) : Int32) ≤ 0) => ?_) (fun (h49 : ¬ ((nI (mWhy A V n r p c)) : Int32) ≤ 0) => ?_)
    · refine R_iconst z82_56 (v := 0) (by decide) ?_
      refine R_iload z82_57 rfl ?_
      refine R_if z82_59 (tn := 70) rfl (fun q => absurd (show ¬ (0 : Int32) = 0 from q) (by decide)) (fun _ => ?_)
      refine R_aload z82_62 rfl ?_
      refine R_iload z82_63 rfl ?_
      refine R_cv z82_64 (k := 80) (by decide +kernel) rfl rfl (by decide +kernel) (Nat.le_of_ble_eq_true (by rfl)) rfl ⟨rfl, trivial⟩ ?_
      refine s80 hW hc (jBk_ret rfl ⟨rfl, rfl⟩ ?_)
      refine R_if z82_67 (tn := 80) rfl (fun (h67 : ((mRoom A V r c) : Int32) = 0) => ?_) (fun (h67 : ¬ ((mRoom A V r c) : Int32) = 0) => ?_)
      · refine R_iconst z82_80 (v := 1) (by decide) ?_
        refine R_goto z82_81 (tn := 85) rfl ?_
        refine R_cv z82_85 (k := 63) (by decide +kernel) rfl rfl (by decide +kernel) (Nat.le_of_ble_eq_true (by rfl)) rfl ⟨rfl, trivial⟩ ?_
        refine s63 (fun q => absurd q (by decide)) (fun _ => jBk_ret rfl ⟨rfl, rfl⟩ ?_)
        refine R_if z82_88 (tn := 93) rfl (fun q => absurd (show (1 : Int32) = 0 from q) (by decide)) (fun _ => ?_)
        refine R_iconst z82_91 (v := 0) (by decide) ?_
        exact R_iret z82_92 (Or.inl (by decide +kernel)) ⟨Nat.zero_le _, Nat.zero_le _⟩ (hU g (mWhy_z h49) (Or.inl h67))
      · refine R_aload z82_70 rfl ?_
        refine R_get z82_71 (k := 4) (f := 10) (by decide +kernel) rfl rfl ?_
        refine R_sipush z82_74 (v := 300) (by decide) ?_
        refine R_icmp z82_77 (tn := 84) rfl (fun (h77 : ¬ ((V 10) : Int32) = 300) => ?_) (fun (h77 : ¬ (¬ ((V 10) : Int32) = 300)) => ?_)
        · refine R_iconst z82_84 (v := 0) (by decide) ?_
          refine R_cv z82_85 (k := 63) (by decide +kernel) rfl rfl (by decide +kernel) (Nat.le_of_ble_eq_true (by rfl)) rfl ⟨rfl, trivial⟩ ?_
          refine s63 (fun _ => jBk_ret rfl ⟨rfl, rfl⟩ ?_) (fun q => absurd rfl q)
          refine R_if z82_88 (tn := 93) rfl (fun _ => ?_) (fun q => absurd (show (0 : Int32) = 0 by decide) q)
          refine R_aload z82_93 rfl ?_
          refine R_iload z82_94 rfl ?_
          refine R_iload z82_95 rfl ?_
          refine R_iload z82_96 rfl ?_
          refine R_aload z82_97 rfl ?_
          refine R_get z82_98 (k := 4) (f := 5) (by decide +kernel) rfl rfl ?_
          refine R_iload z82_101 rfl ?_
          refine R_ild z82_102 (n := 16) (f := A 27) (v := (A 27 c)) rfl (nin hc (by decide)) (by rw [ncl (by omega)]) ?_
          refine R_icmp z82_103 (tn := 110) rfl (fun (h103 : (mk : Int32) < (A 27 c)) => ?_) (fun (h103 : ¬ (mk : Int32) < (A 27 c)) => ?_)
          · refine R_iconst z82_110 (v := 0) (by decide) ?_
            refine R_cv z82_111 (k := 81) (by decide +kernel) rfl rfl (by decide +kernel) (Nat.le_of_ble_eq_true (by rfl)) rfl ⟨rfl, trivial⟩ ?_
            refine s81 (show (va_up V 6 0) 10 = nI r from hW.2.2.1) (r300 hW.2.2.1 hW.2.2.2.1 h77) (jBk_ret rfl ⟨rfl, rfl⟩ ?_)
            exact R_iret z82_114 (Or.inl (by decide +kernel)) ⟨Nat.zero_le _, Nat.zero_le _⟩ (hQ _ g (mWhy_z h49) h67 (r300 hW.2.2.1 hW.2.2.2.1 h77) (if_pos h103).symm)
          · refine R_iconst z82_106 (v := 1) (by decide) ?_
            refine R_goto z82_107 (tn := 111) rfl ?_
            refine R_cv z82_111 (k := 81) (by decide +kernel) rfl rfl (by decide +kernel) (Nat.le_of_ble_eq_true (by rfl)) rfl ⟨rfl, trivial⟩ ?_
            refine s81 (show (va_up V 6 0) 10 = nI r from hW.2.2.1) (r300 hW.2.2.1 hW.2.2.2.1 h77) (jBk_ret rfl ⟨rfl, rfl⟩ ?_)
            exact R_iret z82_114 (Or.inl (by decide +kernel)) ⟨Nat.zero_le _, Nat.zero_le _⟩ (hQ _ g (mWhy_z h49) h67 (r300 hW.2.2.1 hW.2.2.2.1 h77) (if_neg h103).symm)
        · refine R_iconst z82_80 (v := 1) (by decide) ?_
          refine R_goto z82_81 (tn := 85) rfl ?_
          refine R_cv z82_85 (k := 63) (by decide +kernel) rfl rfl (by decide +kernel) (Nat.le_of_ble_eq_true (by rfl)) rfl ⟨rfl, trivial⟩ ?_
          refine s63 (fun q => absurd q (by decide)) (fun _ => jBk_ret rfl ⟨rfl, rfl⟩ ?_)
          refine R_if z82_88 (tn := 93) rfl (fun q => absurd (show (1 : Int32) = 0 from q) (by decide)) (fun _ => ?_)
          refine R_iconst z82_91 (v := 0) (by decide) ?_
          exact R_iret z82_92 (Or.inl (by decide +kernel)) ⟨Nat.zero_le _, Nat.zero_le _⟩ (hU g (mWhy_z h49) (Or.inr (r300n hW.2.2.1 hW.2.2.2.1 (Classical.not_not.mp h77))))
    · refine R_iconst z82_52 (v := 1) (by decide) ?_
      refine R_goto z82_53 (tn := 57) rfl ?_
      refine R_iload z82_57 rfl ?_
      refine R_if z82_59 (tn := 70) rfl (fun q => absurd (show ¬ (0 : Int32) = 0 from q) (by decide)) (fun _ => ?_)
      refine R_aload z82_62 rfl ?_
      refine R_iload z82_63 rfl ?_
      refine R_cv z82_64 (k := 80) (by decide +kernel) rfl rfl (by decide +kernel) (Nat.le_of_ble_eq_true (by rfl)) rfl ⟨rfl, trivial⟩ ?_
      refine s80 hW hc (jBk_ret rfl ⟨rfl, rfl⟩ ?_)
      refine R_if z82_67 (tn := 80) rfl (fun (h67 : ((mRoom A V r c) : Int32) = 0) => ?_) (fun (h67 : ¬ ((mRoom A V r c) : Int32) = 0) => ?_)
      · refine R_iconst z82_80 (v := 1) (by decide) ?_
        refine R_goto z82_81 (tn := 85) rfl ?_
        refine R_cv z82_85 (k := 63) (by decide +kernel) rfl rfl (by decide +kernel) (Nat.le_of_ble_eq_true (by rfl)) rfl ⟨rfl, trivial⟩ ?_
        refine s63 (fun q => absurd q (by decide)) (fun _ => jBk_ret rfl ⟨rfl, rfl⟩ ?_)
        refine R_if z82_88 (tn := 93) rfl (fun q => absurd (show (1 : Int32) = 0 from q) (by decide)) (fun _ => ?_)
        refine R_iconst z82_91 (v := 0) (by decide) ?_
        exact R_iret z82_92 (Or.inl (by decide +kernel)) ⟨Nat.zero_le _, Nat.zero_le _⟩ (hS g (mWhy_p h49))
      · refine R_aload z82_70 rfl ?_
        refine R_get z82_71 (k := 4) (f := 10) (by decide +kernel) rfl rfl ?_
        refine R_sipush z82_74 (v := 300) (by decide) ?_
        refine R_icmp z82_77 (tn := 84) rfl (fun (h77 : ¬ ((V 10) : Int32) = 300) => ?_) (fun (h77 : ¬ (¬ ((V 10) : Int32) = 300)) => ?_)
        · refine R_iconst z82_84 (v := 0) (by decide) ?_
          refine R_cv z82_85 (k := 63) (by decide +kernel) rfl rfl (by decide +kernel) (Nat.le_of_ble_eq_true (by rfl)) rfl ⟨rfl, trivial⟩ ?_
          refine s63 (fun q => absurd q (by decide)) (fun _ => jBk_ret rfl ⟨rfl, rfl⟩ ?_)
          refine R_if z82_88 (tn := 93) rfl (fun q => absurd (show (1 : Int32) = 0 from q) (by decide)) (fun _ => ?_)
          refine R_iconst z82_91 (v := 0) (by decide) ?_
          exact R_iret z82_92 (Or.inl (by decide +kernel)) ⟨Nat.zero_le _, Nat.zero_le _⟩ (hS g (mWhy_p h49))
        · refine R_iconst z82_80 (v := 1) (by decide) ?_
          refine R_goto z82_81 (tn := 85) rfl ?_
          refine R_cv z82_85 (k := 63) (by decide +kernel) rfl rfl (by decide +kernel) (Nat.le_of_ble_eq_true (by rfl)) rfl ⟨rfl, trivial⟩ ?_
          refine s63 (fun q => absurd q (by decide)) (fun _ => jBk_ret rfl ⟨rfl, rfl⟩ ?_)
          refine R_if z82_88 (tn := 93) rfl (fun q => absurd (show (1 : Int32) = 0 from q) (by decide)) (fun _ => ?_)
          refine R_iconst z82_91 (v := 0) (by decide) ?_
          exact R_iret z82_92 (Or.inl (by decide +kernel)) ⟨Nat.zero_le _, Nat.zero_le _⟩ (hS g (mWhy_p h49))
  · refine R_if z82_23 (tn := 30) rfl (fun q => absurd (show ¬ (0 : Int32) = 0 from q) (by decide)) (fun _ => ?_)
    refine R_iconst z82_26 (v := 1) (by decide) ?_
    refine R_goto z82_27 (tn := 31) rfl ?_
    refine R_istore z82_31 (loc' := [some (.ref 25), some (.int (nI p)), some (.int (nI c)), some (.int mk), some (.int 0), some (.int 1)]) rfl rfl ?_
    refine R_aload z82_33 rfl ?_
    refine R_iload z82_34 rfl ?_
    refine R_iload z82_36 rfl ?_
    refine R_iload z82_38 rfl ?_
    refine R_if z82_40 (tn := 56) rfl (fun q => absurd (show ¬ (0 : Int32) = 0 from q) (by decide)) (fun _ => ?_)
    refine R_aload z82_43 rfl ?_
    refine R_iload z82_44 rfl ?_
    refine R_iload z82_45 rfl ?_
    refine R_cv z82_46 (k := 78) (by decide +kernel) rfl rfl (by decide +kernel) (Nat.le_of_ble_eq_true (by rfl)) rfl ⟨rfl, trivial⟩ ?_
    refine s78 hW hp2 hc (jBk_ret rfl ⟨rfl, rfl⟩ ?_)
    refine R_if z82_49 (tn := 56) rfl (fun (h49 : ((nI (mWhy A V n r p c)) : Int32) ≤ 0) => ?_) (fun (h49 : ¬ ((nI (mWhy A V n r p c)) : Int32) ≤ 0) => ?_)
    · refine R_iconst z82_56 (v := 0) (by decide) ?_
      refine R_iload z82_57 rfl ?_
      refine R_if z82_59 (tn := 70) rfl (fun q => absurd (show ¬ (0 : Int32) = 0 from q) (by decide)) (fun _ => ?_)
      refine R_aload z82_62 rfl ?_
      refine R_iload z82_63 rfl ?_
      refine R_cv z82_64 (k := 80) (by decide +kernel) rfl rfl (by decide +kernel) (Nat.le_of_ble_eq_true (by rfl)) rfl ⟨rfl, trivial⟩ ?_
      refine s80 hW hc (jBk_ret rfl ⟨rfl, rfl⟩ ?_)
      refine R_if z82_67 (tn := 80) rfl (fun (h67 : ((mRoom A V r c) : Int32) = 0) => ?_) (fun (h67 : ¬ ((mRoom A V r c) : Int32) = 0) => ?_)
      · refine R_iconst z82_80 (v := 1) (by decide) ?_
        refine R_goto z82_81 (tn := 85) rfl ?_
        refine R_cv z82_85 (k := 63) (by decide +kernel) rfl rfl (by decide +kernel) (Nat.le_of_ble_eq_true (by rfl)) rfl ⟨rfl, trivial⟩ ?_
        refine s63 (fun q => absurd q (by decide)) (fun _ => jBk_ret rfl ⟨rfl, rfl⟩ ?_)
        refine R_if z82_88 (tn := 93) rfl (fun q => absurd (show (1 : Int32) = 0 from q) (by decide)) (fun _ => ?_)
        refine R_iconst z82_91 (v := 0) (by decide) ?_
        exact R_iret z82_92 (Or.inl (by decide +kernel)) ⟨Nat.zero_le _, Nat.zero_le _⟩ (hI g)
      · refine R_aload z82_70 rfl ?_
        refine R_get z82_71 (k := 4) (f := 10) (by decide +kernel) rfl rfl ?_
        refine R_sipush z82_74 (v := 300) (by decide) ?_
        refine R_icmp z82_77 (tn := 84) rfl (fun (h77 : ¬ ((V 10) : Int32) = 300) => ?_) (fun (h77 : ¬ (¬ ((V 10) : Int32) = 300)) => ?_)
        · refine R_iconst z82_84 (v := 0) (by decide) ?_
          refine R_cv z82_85 (k := 63) (by decide +kernel) rfl rfl (by decide +kernel) (Nat.le_of_ble_eq_true (by rfl)) rfl ⟨rfl, trivial⟩ ?_
          refine s63 (fun q => absurd q (by decide)) (fun _ => jBk_ret rfl ⟨rfl, rfl⟩ ?_)
          refine R_if z82_88 (tn := 93) rfl (fun q => absurd (show (1 : Int32) = 0 from q) (by decide)) (fun _ => ?_)
          refine R_iconst z82_91 (v := 0) (by decide) ?_
          exact R_iret z82_92 (Or.inl (by decide +kernel)) ⟨Nat.zero_le _, Nat.zero_le _⟩ (hI g)
        · refine R_iconst z82_80 (v := 1) (by decide) ?_
          refine R_goto z82_81 (tn := 85) rfl ?_
          refine R_cv z82_85 (k := 63) (by decide +kernel) rfl rfl (by decide +kernel) (Nat.le_of_ble_eq_true (by rfl)) rfl ⟨rfl, trivial⟩ ?_
          refine s63 (fun q => absurd q (by decide)) (fun _ => jBk_ret rfl ⟨rfl, rfl⟩ ?_)
          refine R_if z82_88 (tn := 93) rfl (fun q => absurd (show (1 : Int32) = 0 from q) (by decide)) (fun _ => ?_)
          refine R_iconst z82_91 (v := 0) (by decide) ?_
          exact R_iret z82_92 (Or.inl (by decide +kernel)) ⟨Nat.zero_le _, Nat.zero_le _⟩ (hI g)
    · refine R_iconst z82_52 (v := 1) (by decide) ?_
      refine R_goto z82_53 (tn := 57) rfl ?_
      refine R_iload z82_57 rfl ?_
      refine R_if z82_59 (tn := 70) rfl (fun q => absurd (show ¬ (0 : Int32) = 0 from q) (by decide)) (fun _ => ?_)
      refine R_aload z82_62 rfl ?_
      refine R_iload z82_63 rfl ?_
      refine R_cv z82_64 (k := 80) (by decide +kernel) rfl rfl (by decide +kernel) (Nat.le_of_ble_eq_true (by rfl)) rfl ⟨rfl, trivial⟩ ?_
      refine s80 hW hc (jBk_ret rfl ⟨rfl, rfl⟩ ?_)
      refine R_if z82_67 (tn := 80) rfl (fun (h67 : ((mRoom A V r c) : Int32) = 0) => ?_) (fun (h67 : ¬ ((mRoom A V r c) : Int32) = 0) => ?_)
      · refine R_iconst z82_80 (v := 1) (by decide) ?_
        refine R_goto z82_81 (tn := 85) rfl ?_
        refine R_cv z82_85 (k := 63) (by decide +kernel) rfl rfl (by decide +kernel) (Nat.le_of_ble_eq_true (by rfl)) rfl ⟨rfl, trivial⟩ ?_
        refine s63 (fun q => absurd q (by decide)) (fun _ => jBk_ret rfl ⟨rfl, rfl⟩ ?_)
        refine R_if z82_88 (tn := 93) rfl (fun q => absurd (show (1 : Int32) = 0 from q) (by decide)) (fun _ => ?_)
        refine R_iconst z82_91 (v := 0) (by decide) ?_
        exact R_iret z82_92 (Or.inl (by decide +kernel)) ⟨Nat.zero_le _, Nat.zero_le _⟩ (hI g)
      · refine R_aload z82_70 rfl ?_
        refine R_get z82_71 (k := 4) (f := 10) (by decide +kernel) rfl rfl ?_
        refine R_sipush z82_74 (v := 300) (by decide) ?_
        refine R_icmp z82_77 (tn := 84) rfl (fun (h77 : ¬ ((V 10) : Int32) = 300) => ?_) (fun (h77 : ¬ (¬ ((V 10) : Int32) = 300)) => ?_)
        · refine R_iconst z82_84 (v := 0) (by decide) ?_
          refine R_cv z82_85 (k := 63) (by decide +kernel) rfl rfl (by decide +kernel) (Nat.le_of_ble_eq_true (by rfl)) rfl ⟨rfl, trivial⟩ ?_
          refine s63 (fun q => absurd q (by decide)) (fun _ => jBk_ret rfl ⟨rfl, rfl⟩ ?_)
          refine R_if z82_88 (tn := 93) rfl (fun q => absurd (show (1 : Int32) = 0 from q) (by decide)) (fun _ => ?_)
          refine R_iconst z82_91 (v := 0) (by decide) ?_
          exact R_iret z82_92 (Or.inl (by decide +kernel)) ⟨Nat.zero_le _, Nat.zero_le _⟩ (hI g)
        · refine R_iconst z82_80 (v := 1) (by decide) ?_
          refine R_goto z82_81 (tn := 85) rfl ?_
          refine R_cv z82_85 (k := 63) (by decide +kernel) rfl rfl (by decide +kernel) (Nat.le_of_ble_eq_true (by rfl)) rfl ⟨rfl, trivial⟩ ?_
          refine s63 (fun q => absurd q (by decide)) (fun _ => jBk_ret rfl ⟨rfl, rfl⟩ ?_)
          refine R_if z82_88 (tn := 93) rfl (fun q => absurd (show (1 : Int32) = 0 from q) (by decide)) (fun _ => ?_)
          refine R_iconst z82_91 (v := 0) (by decide) ?_
          exact R_iret z82_92 (Or.inl (by decide +kernel)) ⟨Nat.zero_le _, Nat.zero_le _⟩ (hI g)
theorem s97 {l : Launch} {E : jEnv} {A : Nat → Nat → Int32} {V : Nat → Int32} {O : Nat → Int64} {Q : jO → List jC → Prop} {s0 : Int32} {k : Nat} (hk : V 11 = nI k) (hk2 : k ≤ 12) (hbad : (s0 < 0 ∨ ¬ s0 < nI k) → Q (.inl (some (.int 0))) (hp A (va_up V 6 1) O)) (hok : ∀ j : Nat, s0 = nI j → j < k → Q (.inl (some (.int (A 39 j)))) (hp A (va_up V 6 0) O)) : GO l E 97 0 [some (.ref 25), some (.int s0)] [] (hp A V O) 0 0 Q := by
  refine R_aload z97_0 rfl ?_
  refine R_iload z97_1 rfl ?_
  refine R_iconst z97_2 (v := 0) (by decide) ?_
  refine R_aload z97_3 rfl ?_
  refine R_get z97_4 (k := 4) (f := 18) (by decide +kernel) rfl rfl ?_
  refine R_iconst z97_7 (v := 1) (by decide) ?_
  refine R_isub z97_8 ?_
  refine R_cs z97_9 (k := 64) (kind := 1) (by decide +kernel) (by decide) rfl rfl (by decide +kernel) (Nat.le_of_ble_eq_true (by rfl)) rfl ?_
  refine s64 (fun g => jBk_ret rfl ⟨rfl, rfl⟩ ?_) (fun g => jBk_ret rfl ⟨rfl, rfl⟩ ?_)
  · refine R_if z97_12 (tn := 19) rfl (fun _ => ?_) (fun q => absurd (show ¬ (1 : Int32) = 0 by decide) q)
    refine R_iconst z97_19 (v := 0) (by decide) ?_
    refine R_iconst z97_20 (v := 0) (by decide) ?_
    refine R_iconst z97_21 (v := 0) (by decide) ?_
    refine R_iconst z97_22 (v := 0) (by decide) ?_
    refine R_cv z97_23 (k := 63) (by decide +kernel) rfl rfl (by decide +kernel) (Nat.le_of_ble_eq_true (by rfl)) rfl ⟨rfl, trivial⟩ ?_
    refine s63 (fun _ => jBk_ret rfl ⟨rfl, rfl⟩ ?_) (fun q => absurd rfl q)
    refine R_if z97_26 (tn := 31) rfl (fun _ => ?_) (fun q => absurd (show (0 : Int32) = 0 by decide) q)
    rw [hk, jrg_n (by omega)] at g
    obtain ⟨j, hj, ej⟩ := jnat g.1 g.2 (by omega)
    refine R_aload z97_31 rfl ?_
    refine R_get z97_32 (k := 4) (f := 19) (by decide +kernel) rfl rfl ?_
    refine R_iload z97_35 rfl ?_
    refine R_ild z97_36 (n := 12) (f := A 39) (v := (A 39 j)) rfl (by rw [ej]; exact nin (by omega) (by decide)) (by rw [ej, ncl (by omega)]) ?_
    exact R_iret z97_37 (Or.inl (by decide +kernel)) ⟨Nat.zero_le _, Nat.zero_le _⟩ (hok j ej hj)
  · refine R_if z97_12 (tn := 19) rfl (fun q => absurd (show ¬ (0 : Int32) = 0 from q) (by decide)) (fun _ => ?_)
    refine R_iconst z97_15 (v := 1) (by decide) ?_
    refine R_goto z97_16 (tn := 20) rfl ?_
    refine R_iconst z97_20 (v := 0) (by decide) ?_
    refine R_iconst z97_21 (v := 0) (by decide) ?_
    refine R_iconst z97_22 (v := 0) (by decide) ?_
    refine R_cv z97_23 (k := 63) (by decide +kernel) rfl rfl (by decide +kernel) (Nat.le_of_ble_eq_true (by rfl)) rfl ⟨rfl, trivial⟩ ?_
    refine s63 (fun q => absurd q (by decide)) (fun _ => jBk_ret rfl ⟨rfl, rfl⟩ ?_)
    refine R_if z97_26 (tn := 31) rfl (fun q => absurd (show (1 : Int32) = 0 from q) (by decide)) (fun _ => ?_)
    refine R_iconst z97_29 (v := 0) (by decide) ?_
    exact R_iret z97_30 (Or.inl (by decide +kernel)) ⟨Nat.zero_le _, Nat.zero_le _⟩ (hbad (by rw [hk, jrg_n (by omega)] at g; exact (Classical.em (s0 < 0)).elim Or.inl (fun q => Or.inr (fun z => g ⟨q, z⟩))))

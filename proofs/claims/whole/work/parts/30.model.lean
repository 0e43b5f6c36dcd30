/-- the model's numbers are in range -/
def mWf (A : Nat → Nat → Int32) (V : Nat → Int32) (n r : Nat) : Prop := V 9 = nI n ∧ n ≤ 16 ∧ V 10 = nI r ∧ r ≤ 300 ∧ ∀ k, k < r → (∃ o, o < 16 ∧ A 33 k = nI o) ∧ ∃ u, u ≤ 50 ∧ A 36 k = nI u
theorem s62 {l : Launch} {E : jEnv} {A : Nat → Nat → Int32} {V : Nat → Int32} {O : Nat → Int64} {Q : jO → List jC → Prop} (hQ : Q (.inl (some (.int (V 6)))) (hp A V O)) : GO l E 62 0 [some (.ref 25)] [] (hp A V O) 0 0 Q := by
  refine R_aload z62_0 rfl ?_
  refine R_get z62_1 (k := 4) (f := 0) (by decide +kernel) rfl rfl ?_
  exact R_iret z62_4 (Or.inl (by decide +kernel)) ⟨Nat.zero_le _, Nat.zero_le _⟩ (hQ)
/-- the kind of a refusal: 0 none -/
def mThr (a b c d : Int32) : Nat := if ¬ a = 0 then 1 else if ¬ b = 0 then 2 else if ¬ c = 0 then 3 else if ¬ d = 0 then 4 else 0
theorem s63 {l : Launch} {E : jEnv} {A : Nat → Nat → Int32} {V : Nat → Int32} {O : Nat → Int64} {Q : jO → List jC → Prop} {a b c d : Int32} (h0 : mThr a b c d = 0 → Q (.inl (some (.int 0))) (hp A (va_up V 6 0) O)) (h1 : ¬ mThr a b c d = 0 → Q (.inl (some (.int 1))) (hp A (va_up V 6 (nI (mThr a b c d))) O)) : GO l E 63 0 [some (.ref 25), some (.int a), some (.int b), some (.int c), some (.int d)] [] (hp A V O) 0 0 Q := by
  refine R_aload z63_0 rfl ?_
  refine R_iload z63_1 rfl ?_
  refine R_if z63_2 (tn := 9) rfl (fun (h2 : (a : Int32) = 0) => ?_) (fun (h2 : ¬ (a : Int32) = 0) => ?_)
  · refine R_iload z63_9 rfl ?_
    refine R_if z63_10 (tn := 17) rfl (fun (h10 : (b : Int32) = 0) => ?_) (fun (h10 : ¬ (b : Int32) = 0) => ?_)
    · refine R_iload z63_17 rfl ?_
      refine R_if z63_18 (tn := 25) rfl (fun (h18 : (c : Int32) = 0) => ?_) (fun (h18 : ¬ (c : Int32) = 0) => ?_)
      · refine R_iload z63_25 rfl ?_
        refine R_if z63_27 (tn := 34) rfl (fun (h27 : (d : Int32) = 0) => ?_) (fun (h27 : ¬ (d : Int32) = 0) => ?_)
        · refine R_iconst z63_34 (v := 0) (by decide) ?_
          refine R_puti z63_35 (k := 4) (f := 0) (h' := hp A (va_up V 6 0) O) (by decide +kernel) (by decide +kernel) rfl (Nat.le_of_ble_eq_true rfl) rfl ?_
          refine R_aload z63_38 rfl ?_
          refine R_get z63_39 (k := 4) (f := 0) (by decide +kernel) rfl rfl ?_
          refine R_top (y := 0) (rfl) ?_
          refine R_if z63_42 (tn := 49) rfl (fun _ => ?_) (fun q => absurd (show (0 : Int32) ≤ 0 by decide) q)
          refine R_iconst z63_49 (v := 0) (by decide) ?_
          exact R_iret z63_50 (Or.inr (by decide)) ⟨Nat.zero_le _, Nat.zero_le _⟩ (h0 ((if_neg (fun z => z h2)).trans ((if_neg (fun z => z h10)).trans ((if_neg (fun z => z h18)).trans (if_neg (fun z => z h27))))))
        · refine R_iconst z63_30 (v := 4) (by decide) ?_
          refine R_goto z63_31 (tn := 35) rfl ?_
          refine R_puti z63_35 (k := 4) (f := 0) (h' := hp A (va_up V 6 4) O) (by decide +kernel) (by decide +kernel) rfl (Nat.le_of_ble_eq_true rfl) rfl ?_
          refine R_aload z63_38 rfl ?_
          refine R_get z63_39 (k := 4) (f := 0) (by decide +kernel) rfl rfl ?_
          refine R_top (y := 4) (rfl) ?_
          refine R_if z63_42 (tn := 49) rfl (fun q => absurd (show (4 : Int32) ≤ 0 from q) (by decide)) (fun _ => ?_)
          refine R_iconst z63_45 (v := 1) (by decide) ?_
          refine R_goto z63_46 (tn := 50) rfl ?_
          exact R_iret z63_50 (Or.inr (by decide)) ⟨Nat.zero_le _, Nat.zero_le _⟩ (by have e : mThr a b c d = 4 := (if_neg (fun z => z h2)).trans ((if_neg (fun z => z h10)).trans ((if_neg (fun z => z h18)).trans (if_pos h27))); have G := h1 (by rw [e]; decide); rw [e] at G; exact G)
      · refine R_iconst z63_21 (v := 3) (by decide) ?_
        refine R_goto z63_22 (tn := 35) rfl ?_
        refine R_puti z63_35 (k := 4) (f := 0) (h' := hp A (va_up V 6 3) O) (by decide +kernel) (by decide +kernel) rfl (Nat.le_of_ble_eq_true rfl) rfl ?_
        refine R_aload z63_38 rfl ?_
        refine R_get z63_39 (k := 4) (f := 0) (by decide +kernel) rfl rfl ?_
        refine R_top (y := 3) (rfl) ?_
        refine R_if z63_42 (tn := 49) rfl (fun q => absurd (show (3 : Int32) ≤ 0 from q) (by decide)) (fun _ => ?_)
        refine R_iconst z63_45 (v := 1) (by decide) ?_
        refine R_goto z63_46 (tn := 50) rfl ?_
        exact R_iret z63_50 (Or.inr (by decide)) ⟨Nat.zero_le _, Nat.zero_le _⟩ (by have e : mThr a b c d = 3 := (if_neg (fun z => z h2)).trans ((if_neg (fun z => z h10)).trans (if_pos h18)); have G := h1 (by rw [e]; decide); rw [e] at G; exact G)
    · refine R_iconst z63_13 (v := 2) (by decide) ?_
      refine R_goto z63_14 (tn := 35) rfl ?_
      refine R_puti z63_35 (k := 4) (f := 0) (h' := hp A (va_up V 6 2) O) (by decide +kernel) (by decide +kernel) rfl (Nat.le_of_ble_eq_true rfl) rfl ?_
      refine R_aload z63_38 rfl ?_
      refine R_get z63_39 (k := 4) (f := 0) (by decide +kernel) rfl rfl ?_
      refine R_top (y := 2) (rfl) ?_
      refine R_if z63_42 (tn := 49) rfl (fun q => absurd (show (2 : Int32) ≤ 0 from q) (by decide)) (fun _ => ?_)
      refine R_iconst z63_45 (v := 1) (by decide) ?_
      refine R_goto z63_46 (tn := 50) rfl ?_
      exact R_iret z63_50 (Or.inr (by decide)) ⟨Nat.zero_le _, Nat.zero_le _⟩ (by have e : mThr a b c d = 2 := (if_neg (fun z => z h2)).trans (if_pos h10); have G := h1 (by rw [e]; decide); rw [e] at G; exact G)
  · refine R_iconst z63_5 (v := 1) (by decide) ?_
    refine R_goto z63_6 (tn := 35) rfl ?_
    refine R_puti z63_35 (k := 4) (f := 0) (h' := hp A (va_up V 6 1) O) (by decide +kernel) (by decide +kernel) rfl (Nat.le_of_ble_eq_true rfl) rfl ?_
    refine R_aload z63_38 rfl ?_
    refine R_get z63_39 (k := 4) (f := 0) (by decide +kernel) rfl rfl ?_
    refine R_top (y := 1) (rfl) ?_
    refine R_if z63_42 (tn := 49) rfl (fun q => absurd (show (1 : Int32) ≤ 0 from q) (by decide)) (fun _ => ?_)
    refine R_iconst z63_45 (v := 1) (by decide) ?_
    refine R_goto z63_46 (tn := 50) rfl ?_
    exact R_iret z63_50 (Or.inr (by decide)) ⟨Nat.zero_le _, Nat.zero_le _⟩ (by have e : mThr a b c d = 1 := if_pos h2; have G := h1 (by rw [e]; decide); rw [e] at G; exact G)
theorem s64 {l : Launch} {E : jEnv} {A : Nat → Nat → Int32} {V : Nat → Int32} {O : Nat → Int64} {Q : jO → List jC → Prop} {v a b : Int32} (h1 : jrg v a b → Q (.inl (some (.int 1))) (hp A V O)) (h0 : ¬ jrg v a b → Q (.inl (some (.int 0))) (hp A V O)) : GO l E 64 0 [some (.int v), some (.int a), some (.int b)] [] (hp A V O) 0 0 Q := by
  refine R_iload z64_0 rfl ?_
  refine R_iload z64_1 rfl ?_
  refine R_icmp z64_2 (tn := 14) rfl (fun (h2 : (v : Int32) < a) => ?_) (fun (h2 : ¬ (v : Int32) < a) => ?_)
  · refine R_iconst z64_14 (v := 0) (by decide) ?_
    exact R_iret z64_15 (Or.inr (by decide)) ⟨Nat.zero_le _, Nat.zero_le _⟩ (h0 (fun z => z.1 h2))
  · refine R_iload z64_5 rfl ?_
    refine R_iload z64_6 rfl ?_
    refine R_icmp z64_7 (tn := 14) rfl (fun (h7 : (b : Int32) < v) => ?_) (fun (h7 : ¬ (b : Int32) < v) => ?_)
    · refine R_iconst z64_14 (v := 0) (by decide) ?_
      exact R_iret z64_15 (Or.inr (by decide)) ⟨Nat.zero_le _, Nat.zero_le _⟩ (h0 (fun z => absurd z.2 (Int32.not_le.mpr h7)))
    · refine R_iconst z64_10 (v := 1) (by decide) ?_
      refine R_goto z64_11 (tn := 15) rfl ?_
      exact R_iret z64_15 (Or.inr (by decide)) ⟨Nat.zero_le _, Nat.zero_le _⟩ (h1 ⟨h2, Int32.not_lt.mp h7⟩)
theorem jrg_n {c : Int32} {n : Nat} (hn : n < 20000) : jrg c 0 (nI n - 1) ↔ ¬ c < 0 ∧ c < nI n := by
  have e : (nI n - 1).toInt = (n : Int) - 1 := pk_sub_toInt (b := 1) (by omega) (by omega)
  have e2 : (nI n).toInt = n := nI_toInt (by omega)
  constructor
  · rintro ⟨a, b⟩
    refine ⟨a, Int32.lt_iff_toInt_lt.mpr ?_⟩
    have := Int32.le_iff_toInt_le.mp b
    omega
  · rintro ⟨a, b⟩
    refine ⟨a, Int32.le_iff_toInt_le.mpr ?_⟩
    have := Int32.lt_iff_toInt_lt.mp b
    omega
theorem jrg_20 {p : Int32} : jrg p 0 19 ↔ ¬ p < 0 ∧ p < 20 := jrg_n (n := 20) (by decide)
theorem s65 {l : Launch} {E : jEnv} {A : Nat → Nat → Int32} {V : Nat → Int32} {O : Nat → Int64} {Q : jO → List jC → Prop} {c : Int32} {n : Nat} (hV : V 9 = nI n) (hn : n ≤ 16) (h1 : ∀ c2, c = nI c2 → c2 < n → Q (.inl (some (.int 1))) (hp A V O)) (h0 : (c < 0 ∨ ¬ c < nI n) → Q (.inl (some (.int 0))) (hp A V O)) : GO l E 65 0 [some (.ref 25), some (.int c)] [] (hp A V O) 0 0 Q := by
  refine R_iload z65_0 rfl ?_
  refine R_iconst z65_1 (v := 0) (by decide) ?_
  refine R_aload z65_2 rfl ?_
  refine R_get z65_3 (k := 4) (f := 3) (by decide +kernel) rfl rfl ?_
  refine R_iconst z65_6 (v := 1) (by decide) ?_
  refine R_top (y := 1) (rfl) ?_
  refine R_isub z65_7 ?_
  refine R_cs z65_8 (k := 64) (kind := 1) (by decide +kernel) (by decide) rfl rfl (by decide +kernel) (Nat.le_of_ble_eq_true (by rfl)) rfl ?_
  refine s64 (fun g => jBk_ret rfl ⟨rfl, rfl⟩ ?_) (fun g => jBk_ret rfl ⟨rfl, rfl⟩ ?_)
  · exact R_iret z65_11 (Or.inr (by decide)) ⟨Nat.zero_le _, Nat.zero_le _⟩ (by rw [hV, jrg_n (by omega)] at g; obtain ⟨c2, hc2, e⟩ := jnat g.1 g.2 (by omega); exact h1 c2 e hc2)
  · refine R_iret z65_11 (Or.inr (by decide)) ⟨Nat.zero_le _, Nat.zero_le _⟩ (h0 ?_)
    rw [hV, jrg_n (by omega)] at g
    rcases Classical.em (c < 0) with q | q
    · exact Or.inl q
    · exact Or.inr (fun z => g ⟨q, z⟩)
theorem s66 {l : Launch} {E : jEnv} {A : Nat → Nat → Int32} {V : Nat → Int32} {O : Nat → Int64} {Q : jO → List jC → Prop} {p c : Int32} {n : Nat} (hV : V 9 = nI n) (hn : n ≤ 16) (h1 : ∀ p2 c2, p = nI p2 → c = nI c2 → p2 < 20 → c2 < n → Q (.inl (some (.int 1))) (hp A V O)) (h0 : (p < 0 ∨ ¬ p < 20 ∨ c < 0 ∨ ¬ c < nI n) → Q (.inl (some (.int 0))) (hp A V O)) : GO l E 66 0 [some (.ref 25), some (.int p), some (.int c)] [] (hp A V O) 0 0 Q := by
  refine R_iload z66_0 rfl ?_
  refine R_iconst z66_1 (v := 0) (by decide) ?_
  refine R_bipush z66_2 (v := 19) (by decide) ?_
  refine R_cs z66_4 (k := 64) (kind := 1) (by decide +kernel) (by decide) rfl rfl (by decide +kernel) (Nat.le_of_ble_eq_true (by rfl)) rfl ?_
  refine s64 (fun g => jBk_ret rfl ⟨rfl, rfl⟩ ?_) (fun g => jBk_ret rfl ⟨rfl, rfl⟩ ?_)
  · refine R_if z66_7 (tn := 22) rfl (fun q => absurd (show (1 : Int32) = 0 from q) (by decide)) (fun _ => ?_)
    refine R_aload z66_10 rfl ?_
    refine R_iload z66_11 rfl ?_
    refine R_cv z66_12 (k := 65) (by decide +kernel) rfl rfl (by decide +kernel) (Nat.le_of_ble_eq_true (by rfl)) rfl ⟨rfl, trivial⟩ ?_
    refine s65 hV hn (fun c2 e2 l2 => jBk_ret rfl ⟨rfl, rfl⟩ ?_) (fun g3 => jBk_ret rfl ⟨rfl, rfl⟩ ?_)
    · refine R_if z66_15 (tn := 22) rfl (fun q => absurd (show (1 : Int32) = 0 from q) (by decide)) (fun _ => ?_)
      refine R_iconst z66_18 (v := 1) (by decide) ?_
      refine R_goto z66_19 (tn := 23) rfl ?_
      exact R_iret z66_23 (Or.inr (by decide)) ⟨Nat.zero_le _, Nat.zero_le _⟩ (by rw [jrg_20] at g; obtain ⟨p2, hp2, e⟩ := jnat g.1 g.2 (by decide); exact h1 p2 c2 e e2 hp2 l2)
    · refine R_if z66_15 (tn := 22) rfl (fun _ => ?_) (fun q => absurd rfl q)
      refine R_iconst z66_22 (v := 0) (by decide) ?_
      exact R_iret z66_23 (Or.inr (by decide)) ⟨Nat.zero_le _, Nat.zero_le _⟩ (h0 (Or.inr (Or.inr g3)))
  · refine R_if z66_7 (tn := 22) rfl (fun _ => ?_) (fun q => absurd rfl q)
    refine R_iconst z66_22 (v := 0) (by decide) ?_
    refine R_iret z66_23 (Or.inr (by decide)) ⟨Nat.zero_le _, Nat.zero_le _⟩ (h0 ?_)
    rw [jrg_20] at g
    rcases Classical.em (p < 0) with q | q
    · exact Or.inl q
    · exact Or.inr (Or.inl (fun z => g ⟨q, z⟩))
/-- the latest pass of a person and a course among the first k results, up to a day -/
def mPass (A : Nat → Nat → Int32) (p c d : Int32) : Nat → Int32
  | 0 => -1
  | k + 1 => if A 32 k = p ∧ A 33 k = c ∧ ¬ A 35 k = 0 ∧ A 34 k ≤ d then nI k else mPass A p c d k
theorem mPass_pass (A : Nat → Nat → Int32) (p c d : Int32) : ∀ k, jpass (mPass A p c d k) k
  | 0 => Or.inl rfl
  | k + 1 => by
    unfold mPass
    split
    · exact Or.inr ⟨k, by omega, rfl⟩
    · rcases mPass_pass A p c d k with e | ⟨j, hj, e⟩
      · exact Or.inl e
      · exact Or.inr ⟨j, by omega, e⟩
def mFails (A : Nat → Nat → Int32) (p c : Int32) : Nat → Nat
  | 0 => 0
  | k + 1 => if A 32 k = p ∧ A 33 k = c then (if A 35 k = 0 then mFails A p c k + 1 else 0) else mFails A p c k
def mLate (A : Nat → Nat → Int32) (p c : Int32) : Nat → Int32
  | 0 => -1
  | k + 1 => if A 32 k = p ∧ A 33 k = c then nI k else mLate A p c k
def mOff (A : Nat → Nat → Int32) (r : Nat) (d : Int32) : Nat → Nat
  | 0 => 0
  | k + 1 => mOff A r d k + (if A 37 (50 * r + k) ≤ d then 1 else 0)
theorem s73_lp {l : Launch} {E : jEnv} {A : Nat → Nat → Int32} {V : Nat → Int32} {O : Nat → Int64} {Q : jO → List jC → Prop} {p c d : Int32} {n r : Nat} (hW : mWf A V n r) (hQ : Q (.inl (some (.int (mPass A p c d r)))) (hp A V O)) : ∀ (dd k : Nat), k + dd = r →  GO l E 73 6 [some (.ref 25), some (.int p), some (.int c), some (.int d), some (.int (mPass A p c d k)), some (.int (nI k))] [] (hp A V O) 0 0 Q := by
  intro dd
  induction dd with
  | zero =>
    intro k hk 
    have hn16 := hW.2.1
    have hr300 := hW.2.2.2.1
    refine R_iload z73_6 rfl ?_
    refine R_aload z73_8 rfl ?_
    refine R_get z73_9 (k := 4) (f := 10) (by decide +kernel) rfl rfl ?_
    refine R_icmp z73_12 (tn := 73) rfl (fun (h12 : ((V 10) : Int32) ≤ (nI k)) => ?_) (fun q => absurd ((show V 10 ≤ nI k by rw [hW.2.2.1, nge (by omega) (by omega)]; omega)) q)
    refine R_iload z73_73 rfl ?_
    exact R_iret z73_75 (Or.inl (by decide +kernel)) ⟨Nat.zero_le _, Nat.zero_le _⟩ (by rw [show k = r by omega]; exact hQ)
  | succ dd ih =>
    intro k hk 
    have hn16 := hW.2.1
    have hr300 := hW.2.2.2.1
    refine R_iload z73_6 rfl ?_
    refine R_aload z73_8 rfl ?_
    refine R_get z73_9 (k := 4) (f := 10) (by decide +kernel) rfl rfl ?_
    refine R_icmp z73_12 (tn := 73) rfl (fun q => absurd q ((show ¬ V 10 ≤ nI k by rw [hW.2.2.1, nge (by omega) (by omega)]; omega))) (fun (h12 : ¬ ((V 10) : Int32) ≤ (nI k)) => ?_)
    refine R_aload z73_15 rfl ?_
    refine R_get z73_16 (k := 4) (f := 11) (by decide +kernel) rfl rfl ?_
    refine R_iload z73_19 rfl ?_
    refine R_ild z73_21 (n := 300) (f := A 32) (v := (A 32 k)) rfl (nin (by omega) (by decide)) (by rw [ncl (by omega)]) ?_
    refine R_iload z73_22 rfl ?_
    refine R_icmp z73_23 (tn := 63) rfl (fun (h23 : ¬ ((A 32 k) : Int32) = p) => ?_) (fun (h23 : ¬ (¬ ((A 32 k) : Int32) = p)) => ?_)
    · refine R_iload z73_63 rfl ?_
      refine R_istore z73_65 (loc' := [some (.ref 25), some (.int p), some (.int c), some (.int d), some (.int (mPass A p c d k)), some (.int (nI k))]) rfl rfl ?_
      refine R_iinc z73_67 (v := 1) (loc' := [some (.ref 25), some (.int p), some (.int c), some (.int d), some (.int (mPass A p c d k)), some (.int (nI (k + 1)))]) rfl rfl (by decide) (by rw [nI_1]; rfl) ?_
      refine R_goto z73_70 (tn := 6) rfl ?_
      have e9 : mPass A p c d (k + 1) = mPass A p c d k := by rw [mPass, if_neg (fun z => h23 z.1)]
      have G := ih (k + 1) (by omega)
      rw [e9] at G
      exact G
    · refine R_aload z73_26 rfl ?_
      refine R_get z73_27 (k := 4) (f := 12) (by decide +kernel) rfl rfl ?_
      refine R_iload z73_30 rfl ?_
      refine R_ild z73_32 (n := 300) (f := A 33) (v := (A 33 k)) rfl (nin (by omega) (by decide)) (by rw [ncl (by omega)]) ?_
      refine R_iload z73_33 rfl ?_
      refine R_icmp z73_34 (tn := 63) rfl (fun (h34 : ¬ ((A 33 k) : Int32) = c) => ?_) (fun (h34 : ¬ (¬ ((A 33 k) : Int32) = c)) => ?_)
      · refine R_iload z73_63 rfl ?_
        refine R_istore z73_65 (loc' := [some (.ref 25), some (.int p), some (.int c), some (.int d), some (.int (mPass A p c d k)), some (.int (nI k))]) rfl rfl ?_
        refine R_iinc z73_67 (v := 1) (loc' := [some (.ref 25), some (.int p), some (.int c), some (.int d), some (.int (mPass A p c d k)), some (.int (nI (k + 1)))]) rfl rfl (by decide) (by rw [nI_1]; rfl) ?_
        refine R_goto z73_70 (tn := 6) rfl ?_
        have e9 : mPass A p c d (k + 1) = mPass A p c d k := by rw [mPass, if_neg (fun z => h34 z.2.1)]
        have G := ih (k + 1) (by omega)
        rw [e9] at G
        exact G
      · refine R_aload z73_37 rfl ?_
        refine R_get z73_38 (k := 4) (f := 14) (by decide +kernel) rfl rfl ?_
        refine R_iload z73_41 rfl ?_
        refine R_zld z73_43 (n := 300) (f := A 35) (v := (A 35 k)) rfl (nin (by omega) (by decide)) (by rw [ncl (by omega)]) ?_
        refine R_if z73_44 (tn := 63) rfl (fun (h44 : ((A 35 k) : Int32) = 0) => ?_) (fun (h44 : ¬ ((A 35 k) : Int32) = 0) => ?_)
        · refine R_iload z73_63 rfl ?_
          refine R_istore z73_65 (loc' := [some (.ref 25), some (.int p), some (.int c), some (.int d), some (.int (mPass A p c d k)), some (.int (nI k))]) rfl rfl ?_
          refine R_iinc z73_67 (v := 1) (loc' := [some (.ref 25), some (.int p), some (.int c), some (.int d), some (.int (mPass A p c d k)), some (.int (nI (k + 1)))]) rfl rfl (by decide) (by rw [nI_1]; rfl) ?_
          refine R_goto z73_70 (tn := 6) rfl ?_
          have e9 : mPass A p c d (k + 1) = mPass A p c d k := by rw [mPass, if_neg (fun z => z.2.2.1 h44)]
          have G := ih (k + 1) (by omega)
          rw [e9] at G
          exact G
        · refine R_aload z73_47 rfl ?_
          refine R_get z73_48 (k := 4) (f := 13) (by decide +kernel) rfl rfl ?_
          refine R_iload z73_51 rfl ?_
          refine R_ild z73_53 (n := 300) (f := A 34) (v := (A 34 k)) rfl (nin (by omega) (by decide)) (by rw [ncl (by omega)]) ?_
          refine R_iload z73_54 rfl ?_
          refine R_icmp z73_55 (tn := 63) rfl (fun (h55 : (d : Int32) < (A 34 k)) => ?_) (fun (h55 : ¬ (d : Int32) < (A 34 k)) => ?_)
          · refine R_iload z73_63 rfl ?_
            refine R_istore z73_65 (loc' := [some (.ref 25), some (.int p), some (.int c), some (.int d), some (.int (mPass A p c d k)), some (.int (nI k))]) rfl rfl ?_
            refine R_iinc z73_67 (v := 1) (loc' := [some (.ref 25), some (.int p), some (.int c), some (.int d), some (.int (mPass A p c d k)), some (.int (nI (k + 1)))]) rfl rfl (by decide) (by rw [nI_1]; rfl) ?_
            refine R_goto z73_70 (tn := 6) rfl ?_
            have e9 : mPass A p c d (k + 1) = mPass A p c d k := by rw [mPass, if_neg (fun z => absurd z.2.2.2 (Int32.not_le.mpr h55))]
            have G := ih (k + 1) (by omega)
            rw [e9] at G
            exact G
          · refine R_iload z73_58 rfl ?_
            refine R_goto z73_60 (tn := 65) rfl ?_
            refine R_istore z73_65 (loc' := [some (.ref 25), some (.int p), some (.int c), some (.int d), some (.int (nI k)), some (.int (nI k))]) rfl rfl ?_
            refine R_iinc z73_67 (v := 1) (loc' := [some (.ref 25), some (.int p), some (.int c), some (.int d), some (.int (nI k)), some (.int (nI (k + 1)))]) rfl rfl (by decide) (by rw [nI_1]; rfl) ?_
            refine R_goto z73_70 (tn := 6) rfl ?_
            have e9 : mPass A p c d (k + 1) = nI k := by rw [mPass, if_pos ⟨Classical.not_not.mp h23, Classical.not_not.mp h34, h44, Int32.not_lt.mp h55⟩]
            have G := ih (k + 1) (by omega)
            rw [e9] at G
            exact G
theorem s73 {l : Launch} {E : jEnv} {A : Nat → Nat → Int32} {V : Nat → Int32} {O : Nat → Int64} {Q : jO → List jC → Prop} {p c d : Int32} {n r : Nat} (hW : mWf A V n r) (hQ : Q (.inl (some (.int (mPass A p c d r)))) (hp A V O)) : GO l E 73 0 [some (.ref 25), some (.int p), some (.int c), some (.int d), none, none] [] (hp A V O) 0 0 Q := by
  refine R_iconst z73_0 (v := (-1)) (by decide) ?_
  refine R_istore z73_1 (loc' := [some (.ref 25), some (.int p), some (.int c), some (.int d), some (.int (-1)), none]) rfl rfl ?_
  refine R_iconst z73_3 (v := 0) (by decide) ?_
  refine R_istore z73_4 (loc' := [some (.ref 25), some (.int p), some (.int c), some (.int d), some (.int (-1)), some (.int 0)]) rfl rfl ?_
  exact s73_lp hW hQ r 0 (by omega)
theorem s76_lp {l : Launch} {E : jEnv} {A : Nat → Nat → Int32} {V : Nat → Int32} {O : Nat → Int64} {Q : jO → List jC → Prop} {p c : Int32} {n r : Nat} (hW : mWf A V n r) (hQ : Q (.inl (some (.int (nI (mFails A p c r))))) (hp A V O)) : ∀ (d k : Nat), k + d = r →  GO l E 76 5 [some (.ref 25), some (.int p), some (.int c), some (.int (nI (mFails A p c k))), some (.int (nI k))] [] (hp A V O) 0 0 Q := by
  intro d
  induction d with
  | zero =>
    intro k hk 
    have hn16 := hW.2.1
    have hr300 := hW.2.2.2.1
    refine R_iload z76_5 rfl ?_
    refine R_aload z76_7 rfl ?_
    refine R_get z76_8 (k := 4) (f := 10) (by decide +kernel) rfl rfl ?_
    refine R_icmp z76_11 (tn := 60) rfl (fun (h11 : ((V 10) : Int32) ≤ (nI k)) => ?_) (fun q => absurd ((show V 10 ≤ nI k by rw [hW.2.2.1, nge (by omega) (by omega)]; omega)) q)
    refine R_iload z76_60 rfl ?_
    exact R_iret z76_61 (Or.inl (by decide +kernel)) ⟨Nat.zero_le _, Nat.zero_le _⟩ (by rw [show k = r by omega]; exact hQ)
  | succ d ih =>
    intro k hk 
    have hn16 := hW.2.1
    have hr300 := hW.2.2.2.1
    refine R_iload z76_5 rfl ?_
    refine R_aload z76_7 rfl ?_
    refine R_get z76_8 (k := 4) (f := 10) (by decide +kernel) rfl rfl ?_
    refine R_icmp z76_11 (tn := 60) rfl (fun q => absurd q ((show ¬ V 10 ≤ nI k by rw [hW.2.2.1, nge (by omega) (by omega)]; omega))) (fun (h11 : ¬ ((V 10) : Int32) ≤ (nI k)) => ?_)
    refine R_aload z76_14 rfl ?_
    refine R_get z76_15 (k := 4) (f := 11) (by decide +kernel) rfl rfl ?_
    refine R_iload z76_18 rfl ?_
    refine R_ild z76_20 (n := 300) (f := A 32) (v := (A 32 k)) rfl (nin (by omega) (by decide)) (by rw [ncl (by omega)]) ?_
    refine R_iload z76_21 rfl ?_
    refine R_icmp z76_22 (tn := 54) rfl (fun (h22 : ¬ ((A 32 k) : Int32) = p) => ?_) (fun (h22 : ¬ (¬ ((A 32 k) : Int32) = p)) => ?_)
    · refine R_iinc z76_54 (v := 1) (loc' := [some (.ref 25), some (.int p), some (.int c), some (.int (nI (mFails A p c k))), some (.int (nI (k + 1)))]) rfl rfl (by decide) (by rw [nI_1]; rfl) ?_
      refine R_goto z76_57 (tn := 5) rfl ?_
      have e9 : mFails A p c (k + 1) = mFails A p c k := by rw [mFails, if_neg (fun z => h22 z.1)]
      have G := ih (k + 1) (by omega)
      rw [e9] at G
      exact G
    · refine R_aload z76_25 rfl ?_
      refine R_get z76_26 (k := 4) (f := 12) (by decide +kernel) rfl rfl ?_
      refine R_iload z76_29 rfl ?_
      refine R_ild z76_31 (n := 300) (f := A 33) (v := (A 33 k)) rfl (nin (by omega) (by decide)) (by rw [ncl (by omega)]) ?_
      refine R_iload z76_32 rfl ?_
      refine R_icmp z76_33 (tn := 54) rfl (fun (h33 : ¬ ((A 33 k) : Int32) = c) => ?_) (fun (h33 : ¬ (¬ ((A 33 k) : Int32) = c)) => ?_)
      · refine R_iinc z76_54 (v := 1) (loc' := [some (.ref 25), some (.int p), some (.int c), some (.int (nI (mFails A p c k))), some (.int (nI (k + 1)))]) rfl rfl (by decide) (by rw [nI_1]; rfl) ?_
        refine R_goto z76_57 (tn := 5) rfl ?_
        have e9 : mFails A p c (k + 1) = mFails A p c k := by rw [mFails, if_neg (fun z => h33 z.2)]
        have G := ih (k + 1) (by omega)
        rw [e9] at G
        exact G
      · refine R_aload z76_36 rfl ?_
        refine R_get z76_37 (k := 4) (f := 14) (by decide +kernel) rfl rfl ?_
        refine R_iload z76_40 rfl ?_
        refine R_zld z76_42 (n := 300) (f := A 35) (v := (A 35 k)) rfl (nin (by omega) (by decide)) (by rw [ncl (by omega)]) ?_
        refine R_if z76_43 (tn := 50) rfl (fun (h43 : ((A 35 k) : Int32) = 0) => ?_) (fun (h43 : ¬ ((A 35 k) : Int32) = 0) => ?_)
        · refine R_iload z76_50 rfl ?_
          refine R_iconst z76_51 (v := 1) (by decide) ?_
          refine R_iadd z76_52 ?_
          refine R_top (y := nI (mFails A p c k + 1)) (nI_1 _) ?_
          refine R_istore z76_53 (loc' := [some (.ref 25), some (.int p), some (.int c), some (.int (nI (mFails A p c k + 1))), some (.int (nI k))]) rfl rfl ?_
          refine R_iinc z76_54 (v := 1) (loc' := [some (.ref 25), some (.int p), some (.int c), some (.int (nI (mFails A p c k + 1))), some (.int (nI (k + 1)))]) rfl rfl (by decide) (by rw [nI_1]; rfl) ?_
          refine R_goto z76_57 (tn := 5) rfl ?_
          have e9 : mFails A p c (k + 1) = mFails A p c k + 1 := by rw [mFails, if_pos ⟨Classical.not_not.mp h22, Classical.not_not.mp h33⟩, if_pos h43]
          have G := ih (k + 1) (by omega)
          rw [e9] at G
          exact G
        · refine R_iconst z76_46 (v := 0) (by decide) ?_
          refine R_goto z76_47 (tn := 53) rfl ?_
          refine R_top (y := (nI 0)) (rfl) ?_
          refine R_istore z76_53 (loc' := [some (.ref 25), some (.int p), some (.int c), some (.int (nI 0)), some (.int (nI k))]) rfl rfl ?_
          refine R_iinc z76_54 (v := 1) (loc' := [some (.ref 25), some (.int p), some (.int c), some (.int (nI 0)), some (.int (nI (k + 1)))]) rfl rfl (by decide) (by rw [nI_1]; rfl) ?_
          refine R_goto z76_57 (tn := 5) rfl ?_
          have e9 : mFails A p c (k + 1) = 0 := by rw [mFails, if_pos ⟨Classical.not_not.mp h22, Classical.not_not.mp h33⟩, if_neg h43]
          have G := ih (k + 1) (by omega)
          rw [e9] at G
          exact G
theorem s76 {l : Launch} {E : jEnv} {A : Nat → Nat → Int32} {V : Nat → Int32} {O : Nat → Int64} {Q : jO → List jC → Prop} {p c : Int32} {n r : Nat} (hW : mWf A V n r) (hQ : Q (.inl (some (.int (nI (mFails A p c r))))) (hp A V O)) : GO l E 76 0 [some (.ref 25), some (.int p), some (.int c), none, none] [] (hp A V O) 0 0 Q := by
  refine R_iconst z76_0 (v := 0) (by decide) ?_
  refine R_istore z76_1 (loc' := [some (.ref 25), some (.int p), some (.int c), some (.int 0), none]) rfl rfl ?_
  refine R_iconst z76_2 (v := 0) (by decide) ?_
  refine R_istore z76_3 (loc' := [some (.ref 25), some (.int p), some (.int c), some (.int 0), some (.int 0)]) rfl rfl ?_
  exact s76_lp hW hQ r 0 (by omega)
theorem s77_lp {l : Launch} {E : jEnv} {A : Nat → Nat → Int32} {V : Nat → Int32} {O : Nat → Int64} {Q : jO → List jC → Prop} {p c : Int32} {n r : Nat} (hW : mWf A V n r) (hQ : Q (.inl (some (.int (mLate A p c r)))) (hp A V O)) : ∀ (d k : Nat), k + d = r →  GO l E 77 5 [some (.ref 25), some (.int p), some (.int c), some (.int (mLate A p c k)), some (.int (nI k))] [] (hp A V O) 0 0 Q := by
  intro d
  induction d with
  | zero =>
    intro k hk 
    have hn16 := hW.2.1
    have hr300 := hW.2.2.2.1
    refine R_iload z77_5 rfl ?_
    refine R_aload z77_7 rfl ?_
    refine R_get z77_8 (k := 4) (f := 10) (by decide +kernel) rfl rfl ?_
    refine R_icmp z77_11 (tn := 49) rfl (fun (h11 : ((V 10) : Int32) ≤ (nI k)) => ?_) (fun q => absurd ((show V 10 ≤ nI k by rw [hW.2.2.1, nge (by omega) (by omega)]; omega)) q)
    refine R_iload z77_49 rfl ?_
    exact R_iret z77_50 (Or.inl (by decide +kernel)) ⟨Nat.zero_le _, Nat.zero_le _⟩ (by rw [show k = r by omega]; exact hQ)
  | succ d ih =>
    intro k hk 
    have hn16 := hW.2.1
    have hr300 := hW.2.2.2.1
    refine R_iload z77_5 rfl ?_
    refine R_aload z77_7 rfl ?_
    refine R_get z77_8 (k := 4) (f := 10) (by decide +kernel) rfl rfl ?_
    refine R_icmp z77_11 (tn := 49) rfl (fun q => absurd q ((show ¬ V 10 ≤ nI k by rw [hW.2.2.1, nge (by omega) (by omega)]; omega))) (fun (h11 : ¬ ((V 10) : Int32) ≤ (nI k)) => ?_)
    refine R_aload z77_14 rfl ?_
    refine R_get z77_15 (k := 4) (f := 11) (by decide +kernel) rfl rfl ?_
    refine R_iload z77_18 rfl ?_
    refine R_ild z77_20 (n := 300) (f := A 32) (v := (A 32 k)) rfl (nin (by omega) (by decide)) (by rw [ncl (by omega)]) ?_
    refine R_iload z77_21 rfl ?_
    refine R_icmp z77_22 (tn := 41) rfl (fun (h22 : ¬ ((A 32 k) : Int32) = p) => ?_) (fun (h22 : ¬ (¬ ((A 32 k) : Int32) = p)) => ?_)
    · refine R_iload z77_41 rfl ?_
      refine R_istore z77_42 (loc' := [some (.ref 25), some (.int p), some (.int c), some (.int (mLate A p c k)), some (.int (nI k))]) rfl rfl ?_
      refine R_iinc z77_43 (v := 1) (loc' := [some (.ref 25), some (.int p), some (.int c), some (.int (mLate A p c k)), some (.int (nI (k + 1)))]) rfl rfl (by decide) (by rw [nI_1]; rfl) ?_
      refine R_goto z77_46 (tn := 5) rfl ?_
      have e9 : mLate A p c (k + 1) = mLate A p c k := by rw [mLate, if_neg (fun z => h22 z.1)]
      have G := ih (k + 1) (by omega)
      rw [e9] at G
      exact G
    · refine R_aload z77_25 rfl ?_
      refine R_get z77_26 (k := 4) (f := 12) (by decide +kernel) rfl rfl ?_
      refine R_iload z77_29 rfl ?_
      refine R_ild z77_31 (n := 300) (f := A 33) (v := (A 33 k)) rfl (nin (by omega) (by decide)) (by rw [ncl (by omega)]) ?_
      refine R_iload z77_32 rfl ?_
      refine R_icmp z77_33 (tn := 41) rfl (fun (h33 : ¬ ((A 33 k) : Int32) = c) => ?_) (fun (h33 : ¬ (¬ ((A 33 k) : Int32) = c)) => ?_)
      · refine R_iload z77_41 rfl ?_
        refine R_istore z77_42 (loc' := [some (.ref 25), some (.int p), some (.int c), some (.int (mLate A p c k)), some (.int (nI k))]) rfl rfl ?_
        refine R_iinc z77_43 (v := 1) (loc' := [some (.ref 25), some (.int p), some (.int c), some (.int (mLate A p c k)), some (.int (nI (k + 1)))]) rfl rfl (by decide) (by rw [nI_1]; rfl) ?_
        refine R_goto z77_46 (tn := 5) rfl ?_
        have e9 : mLate A p c (k + 1) = mLate A p c k := by rw [mLate, if_neg (fun z => h33 z.2)]
        have G := ih (k + 1) (by omega)
        rw [e9] at G
        exact G
      · refine R_iload z77_36 rfl ?_
        refine R_goto z77_38 (tn := 42) rfl ?_
        refine R_istore z77_42 (loc' := [some (.ref 25), some (.int p), some (.int c), some (.int (nI k)), some (.int (nI k))]) rfl rfl ?_
        refine R_iinc z77_43 (v := 1) (loc' := [some (.ref 25), some (.int p), some (.int c), some (.int (nI k)), some (.int (nI (k + 1)))]) rfl rfl (by decide) (by rw [nI_1]; rfl) ?_
        refine R_goto z77_46 (tn := 5) rfl ?_
        have e9 : mLate A p c (k + 1) = nI k := by rw [mLate, if_pos ⟨Classical.not_not.mp h22, Classical.not_not.mp h33⟩]
        have G := ih (k + 1) (by omega)
        rw [e9] at G
        exact G
theorem s77 {l : Launch} {E : jEnv} {A : Nat → Nat → Int32} {V : Nat → Int32} {O : Nat → Int64} {Q : jO → List jC → Prop} {p c : Int32} {n r : Nat} (hW : mWf A V n r) (hQ : Q (.inl (some (.int (mLate A p c r)))) (hp A V O)) : GO l E 77 0 [some (.ref 25), some (.int p), some (.int c), none, none] [] (hp A V O) 0 0 Q := by
  refine R_iconst z77_0 (v := (-1)) (by decide) ?_
  refine R_istore z77_1 (loc' := [some (.ref 25), some (.int p), some (.int c), some (.int (-1)), none]) rfl rfl ?_
  refine R_iconst z77_2 (v := 0) (by decide) ?_
  refine R_istore z77_3 (loc' := [some (.ref 25), some (.int p), some (.int c), some (.int (-1)), some (.int 0)]) rfl rfl ?_
  exact s77_lp hW hQ r 0 (by omega)
def mLap (A : Nat → Nat → Int32) (x : Nat) (d : Int32) : Int32 := A 34 x + A 26 (A 33 x).toNatClampNeg + nI (mOff A x d (A 36 x).toNatClampNeg)
theorem mlo_e {A : Nat → Nat → Int32} {x o u k : Nat} {d : Int32} {P : Int32 → Prop} (eu : A 36 x = nI u) (eo : A 33 x = nI o) (hk : k = u) (hu : u ≤ 50) (ho : o < 16) (h : P (mLap A x d)) : P (A 34 x + A 26 o + nI (mOff A x d k)) := by
  have e : mLap A x d = A 34 x + A 26 o + nI (mOff A x d k) := by rw [mLap, eu, eo, ncl (by omega), ncl (by omega), hk]
  rw [e] at h
  exact h
theorem s74_lp {l : Launch} {E : jEnv} {A : Nat → Nat → Int32} {V : Nat → Int32} {O : Nat → Int64} {Q : jO → List jC → Prop} {x o u : Nat} {d : Int32} (hx3 : x < 300) (ho : o < 16) (hu : u ≤ 50) (eo : A 33 x = nI o) (eu : A 36 x = nI u) (hQ : Q (.inl (some (.int (mLap A x d)))) (hp A V O)) : ∀ (dd k : Nat), k + dd = u →  GO l E 74 5 [some (.ref 25), some (.int (nI x)), some (.int d), some (.int (nI (mOff A x d k))), some (.int (nI k))] [] (hp A V O) 0 0 Q := by
  intro dd
  induction dd with
  | zero =>
    intro k hk 
    refine R_iload z74_5 rfl ?_
    refine R_aload z74_7 rfl ?_
    refine R_get z74_8 (k := 4) (f := 15) (by decide +kernel) rfl rfl ?_
    refine R_iload z74_11 rfl ?_
    refine R_ild z74_12 (n := 300) (f := A 36) (v := (nI u)) rfl (nin hx3 (by decide)) (by rw [ncl (by omega)]; exact eu) ?_
    refine R_icmp z74_13 (tn := 46) rfl (fun (h13 : ((nI u) : Int32) ≤ (nI k)) => ?_) (fun q => absurd ((show nI u ≤ nI k by rw [nge (by omega) (by omega)]; omega)) q)
    refine R_aload z74_46 rfl ?_
    refine R_get z74_47 (k := 4) (f := 13) (by decide +kernel) rfl rfl ?_
    refine R_iload z74_50 rfl ?_
    refine R_ild z74_51 (n := 300) (f := A 34) (v := (A 34 x)) rfl (nin hx3 (by decide)) (by rw [ncl (by omega)]) ?_
    refine R_aload z74_52 rfl ?_
    refine R_get z74_53 (k := 4) (f := 4) (by decide +kernel) rfl rfl ?_
    refine R_aload z74_56 rfl ?_
    refine R_get z74_57 (k := 4) (f := 12) (by decide +kernel) rfl rfl ?_
    refine R_iload z74_60 rfl ?_
    refine R_ild z74_61 (n := 300) (f := A 33) (v := (nI o)) rfl (nin hx3 (by decide)) (by rw [ncl (by omega)]; exact eo) ?_
    refine R_ild z74_62 (n := 16) (f := A 26) (v := (A 26 o)) rfl (nin ho (by decide)) (by rw [ncl (by omega)]) ?_
    refine R_iadd z74_63 ?_
    refine R_iload z74_64 rfl ?_
    refine R_iadd z74_65 ?_
    exact R_iret z74_66 (Or.inl (by decide +kernel)) ⟨Nat.zero_le _, Nat.zero_le _⟩ (mlo_e (P := fun v => Q (.inl (some (.int v))) (hp A V O)) eu eo (by omega) hu ho hQ)
  | succ dd ih =>
    intro k hk 
    refine R_iload z74_5 rfl ?_
    refine R_aload z74_7 rfl ?_
    refine R_get z74_8 (k := 4) (f := 15) (by decide +kernel) rfl rfl ?_
    refine R_iload z74_11 rfl ?_
    refine R_ild z74_12 (n := 300) (f := A 36) (v := (nI u)) rfl (nin hx3 (by decide)) (by rw [ncl (by omega)]; exact eu) ?_
    refine R_icmp z74_13 (tn := 46) rfl (fun q => absurd q ((show ¬ nI u ≤ nI k by rw [nge (by omega) (by omega)]; omega))) (fun (h13 : ¬ ((nI u) : Int32) ≤ (nI k)) => ?_)
    refine R_iload z74_16 rfl ?_
    refine R_aload z74_17 rfl ?_
    refine R_get z74_18 (k := 4) (f := 16) (by decide +kernel) rfl rfl ?_
    refine R_bipush z74_21 (v := 50) (by decide) ?_
    refine R_iload z74_23 rfl ?_
    refine R_imul z74_24 ?_
    refine R_iload z74_25 rfl ?_
    refine R_iadd z74_27 ?_
    refine R_top (y := nI (50 * x + k)) (by rw [show (50 : Int32) = nI 50 by decide, pk_mul, nI_add]) ?_
    refine R_ild z74_28 (n := 15000) (f := A 37) (v := (A 37 (50 * x + k))) rfl (nin (by omega) (by decide)) (by rw [ncl (by omega)]) ?_
    refine R_iload z74_29 rfl ?_
    refine R_icmp z74_30 (tn := 37) rfl (fun (h30 : (d : Int32) < (A 37 (50 * x + k))) => ?_) (fun (h30 : ¬ (d : Int32) < (A 37 (50 * x + k))) => ?_)
    · refine R_iconst z74_37 (v := 0) (by decide) ?_
      refine R_iadd z74_38 ?_
      refine R_top (y := nI (mOff A x d (k + 1))) (by rw [mOff, if_neg (Int32.not_le.mpr h30)]; exact (Int32.add_zero _)) ?_
      refine R_istore z74_39 (loc' := [some (.ref 25), some (.int (nI x)), some (.int d), some (.int (nI (mOff A x d (k + 1)))), some (.int (nI k))]) rfl rfl ?_
      refine R_iinc z74_40 (v := 1) (loc' := [some (.ref 25), some (.int (nI x)), some (.int d), some (.int (nI (mOff A x d (k + 1)))), some (.int (nI (k + 1)))]) rfl rfl (by decide) (by rw [nI_1]; rfl) ?_
      refine R_goto z74_43 (tn := 5) rfl ?_
      exact ih (k + 1) (by omega)
    · refine R_iconst z74_33 (v := 1) (by decide) ?_
      refine R_goto z74_34 (tn := 38) rfl ?_
      refine R_iadd z74_38 ?_
      refine R_top (y := nI (mOff A x d (k + 1))) (by rw [mOff, if_pos (Int32.not_lt.mp h30)]; exact nI_1 _) ?_
      refine R_istore z74_39 (loc' := [some (.ref 25), some (.int (nI x)), some (.int d), some (.int (nI (mOff A x d (k + 1)))), some (.int (nI k))]) rfl rfl ?_
      refine R_iinc z74_40 (v := 1) (loc' := [some (.ref 25), some (.int (nI x)), some (.int d), some (.int (nI (mOff A x d (k + 1)))), some (.int (nI (k + 1)))]) rfl rfl (by decide) (by rw [nI_1]; rfl) ?_
      refine R_goto z74_43 (tn := 5) rfl ?_
      exact ih (k + 1) (by omega)
theorem s74 {l : Launch} {E : jEnv} {A : Nat → Nat → Int32} {V : Nat → Int32} {O : Nat → Int64} {Q : jO → List jC → Prop} {x n r : Nat} {d : Int32} (hW : mWf A V n r) (hx : x < r) (hQ : Q (.inl (some (.int (mLap A x d)))) (hp A V O)) : GO l E 74 0 [some (.ref 25), some (.int (nI x)), some (.int d), none, none] [] (hp A V O) 0 0 Q := by
  refine R_iconst z74_0 (v := 0) (by decide) ?_
  refine R_istore z74_1 (loc' := [some (.ref 25), some (.int (nI x)), some (.int d), some (.int 0), none]) rfl rfl ?_
  refine R_iconst z74_2 (v := 0) (by decide) ?_
  refine R_istore z74_3 (loc' := [some (.ref 25), some (.int (nI x)), some (.int d), some (.int 0), some (.int 0)]) rfl rfl ?_
  obtain ⟨⟨o, ho, eo⟩, u, hu, eu⟩ := hW.2.2.2.2 x hx
  exact s74_lp (by have := hW.2.2.2.1; omega) ho hu eo eu hQ u 0 (by omega)
def mHeld (A : Nat → Nat → Int32) (r : Nat) (p c d : Int32) : Prop := ¬ mPass A p c d r < 0 ∧ d < mLap A (mPass A p c d r).toNatClampNeg d
theorem mPass_nat {A : Nat → Nat → Int32} {p c d : Int32} {r : Nat} (hr : r ≤ 300) (h : ¬ mPass A p c d r < 0) : ∃ x, x < r ∧ mPass A p c d r = nI x := by
  rcases mPass_pass A p c d r with e | ⟨x, hx, e⟩
  · rw [e] at h; exact absurd (by decide) h
  · exact ⟨x, hx, e⟩
theorem s74b {l : Launch} {E : jEnv} {A : Nat → Nat → Int32} {V : Nat → Int32} {O : Nat → Int64} {Q : jO → List jC → Prop} {x n r : Nat} {d y : Int32} (hW : mWf A V n r) (hx : x < r) (ey : y = nI x) (hQ : Q (.inl (some (.int (mLap A x d)))) (hp A V O)) : GO l E 74 0 [some (.ref 25), some (.int y), some (.int d), none, none] [] (hp A V O) 0 0 Q := by
  subst ey; exact s74 hW hx hQ
theorem s75 {l : Launch} {E : jEnv} {A : Nat → Nat → Int32} {V : Nat → Int32} {O : Nat → Int64} {Q : jO → List jC → Prop} {p c d : Int32} {n r : Nat} (hW : mWf A V n r) (h1 : mHeld A r p c d → Q (.inl (some (.int 1))) (hp A V O)) (h0 : ¬ mHeld A r p c d → Q (.inl (some (.int 0))) (hp A V O)) : GO l E 75 0 [some (.ref 25), some (.int p), some (.int c), some (.int d), none] [] (hp A V O) 0 0 Q := by
  refine R_aload z75_0 rfl ?_
  refine R_iload z75_1 rfl ?_
  refine R_iload z75_2 rfl ?_
  refine R_iload z75_3 rfl ?_
  refine R_cv z75_4 (k := 73) (by decide +kernel) rfl rfl (by decide +kernel) (Nat.le_of_ble_eq_true (by rfl)) rfl ⟨rfl, trivial⟩ ?_
  refine s73 hW (jBk_ret rfl ⟨rfl, rfl⟩ ?_)
  refine R_istore z75_7 (loc' := [some (.ref 25), some (.int p), some (.int c), some (.int d), some (.int (mPass A p c d r))]) rfl rfl ?_
  refine R_iload z75_9 rfl ?_
  refine R_if z75_11 (tn := 29) rfl (fun (h11 : ((mPass A p c d r) : Int32) < 0) => ?_) (fun (h11 : ¬ ((mPass A p c d r) : Int32) < 0) => ?_)
  · refine R_iconst z75_29 (v := 0) (by decide) ?_
    exact R_iret z75_30 (Or.inr (by decide)) ⟨Nat.zero_le _, Nat.zero_le _⟩ (h0 (fun z => z.1 h11))
  · obtain ⟨x, hx, ex⟩ := mPass_nat hW.2.2.2.1 h11
    refine R_iload z75_14 rfl ?_
    refine R_aload z75_15 rfl ?_
    refine R_iload z75_16 rfl ?_
    refine R_iload z75_18 rfl ?_
    refine R_cv z75_19 (k := 74) (by decide +kernel) rfl rfl (by decide +kernel) (Nat.le_of_ble_eq_true (by rfl)) rfl ⟨rfl, trivial⟩ ?_
    refine s74b hW hx ex (jBk_ret rfl ⟨rfl, rfl⟩ ?_)
    refine R_icmp z75_22 (tn := 29) rfl (fun (h22 : ((mLap A x d) : Int32) ≤ d) => ?_) (fun (h22 : ¬ ((mLap A x d) : Int32) ≤ d) => ?_)
    · refine R_iconst z75_29 (v := 0) (by decide) ?_
      exact R_iret z75_30 (Or.inr (by decide)) ⟨Nat.zero_le _, Nat.zero_le _⟩ (h0 (fun z => absurd h22 (Int32.not_le.mpr (by have y := z.2; rw [ex, ncl (by have := hW.2.2.2.1; omega)] at y; exact y))))
    · refine R_iconst z75_25 (v := 1) (by decide) ?_
      refine R_goto z75_26 (tn := 30) rfl ?_
      exact R_iret z75_30 (Or.inr (by decide)) ⟨Nat.zero_le _, Nat.zero_le _⟩ (h1 ⟨h11, by rw [ex, ncl (by have := hW.2.2.2.1; omega)]; exact Int32.not_le.mp h22⟩)

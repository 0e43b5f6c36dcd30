theorem GO_drop {l : Launch} {E : jEnv} {i pc : Nat} {loc : List (Option Value)} {st : List Value} {h : List jC} {c s : Nat} {Q : jO → List jC → Prop} (k : Nat) (hg : GO l E i pc (loc.set k none) st h c s Q) : GO l E i pc loc st h c s Q := by
  refine GO_loc (fun j v hj => ?_) hg
  by_cases e : k = j
  · subst e
    rw [List.getElem?_set] at hj
    simp only [if_true] at hj
    split at hj <;> cases hj
  · rw [List.getElem?_set_ne e] at hj; exact hj
theorem s63k {l : Launch} {E : jEnv} {A : Nat → Nat → Int32} {V : Nat → Int32} {O : Nat → Int64} {Q : jO → List jC → Prop} {a b c d : Int32} {n : Nat} (hn : mThr a b c d = n) (h : ¬ n = 0) (h1 : Q (.inl (some (.int 1))) (hp A (va_up V 6 (nI n)) O)) : GO l E 63 0 [some (.ref 25), some (.int a), some (.int b), some (.int c), some (.int d)] [] (hp A V O) 0 0 Q := by
  subst hn
  exact s63 (fun q => absurd q h) (fun _ => h1)
theorem s63z {l : Launch} {E : jEnv} {A : Nat → Nat → Int32} {V : Nat → Int32} {O : Nat → Int64} {Q : jO → List jC → Prop} {a b c d : Int32} (hn : mThr a b c d = 0) (h1 : Q (.inl (some (.int 0))) (hp A (va_up V 6 0) O)) : GO l E 63 0 [some (.ref 25), some (.int a), some (.int b), some (.int c), some (.int d)] [] (hp A V O) 0 0 Q := s63 (fun _ => h1) (fun q => absurd hn q)
def mHas (A : Nat → Nat → Int32) (c : Int32) : Nat → Int32
  | 0 => 0
  | k + 1 => if ¬ mHas A c k = 0 ∨ A 33 k = c then 1 else 0
theorem s83_lp {l : Launch} {E : jEnv} {A : Nat → Nat → Int32} {V : Nat → Int32} {O : Nat → Int64} {Q : jO → List jC → Prop} {p c b : Int32} {n r : Nat} (hW : mWf A V n r) (hK : GO l E 83 59 [some (.ref 25), some (.int p), some (.int c), some (.int b), some (.int (mHas A c r)), some (.int (nI r))] [] (hp A V O) 0 0 Q) : ∀ (d k : Nat), k + d = r →  GO l E 83 21 [some (.ref 25), some (.int p), some (.int c), some (.int b), some (.int (mHas A c k)), some (.int (nI k))] [] (hp A V O) 0 0 Q := by
  intro d
  induction d with
  | zero =>
    intro k hk 
    have hn16 := hW.2.1
    have hr300 := hW.2.2.2.1
    refine R_iload z83_21 rfl ?_
    refine R_aload z83_23 rfl ?_
    refine R_get z83_24 (k := 4) (f := 10) (by decide +kernel) rfl rfl ?_
    refine R_icmp z83_27 (tn := 59) rfl (fun (h27 : ((V 10) : Int32) ≤ (nI k)) => ?_) (fun q => absurd ((show V 10 ≤ nI k by rw [hW.2.2.1, nge (by omega) (by omega)]; omega)) q)
    rw [show k = r by omega]; exact hK
  | succ d ih =>
    intro k hk 
    have hn16 := hW.2.1
    have hr300 := hW.2.2.2.1
    refine R_iload z83_21 rfl ?_
    refine R_aload z83_23 rfl ?_
    refine R_get z83_24 (k := 4) (f := 10) (by decide +kernel) rfl rfl ?_
    refine R_icmp z83_27 (tn := 59) rfl (fun q => absurd q ((show ¬ V 10 ≤ nI k by rw [hW.2.2.1, nge (by omega) (by omega)]; omega))) (fun (h27 : ¬ ((V 10) : Int32) ≤ (nI k)) => ?_)
    refine R_iload z83_30 rfl ?_
    refine R_if z83_32 (tn := 46) rfl (fun (h32 : ¬ ((mHas A c k) : Int32) = 0) => ?_) (fun (h32 : ¬ (¬ ((mHas A c k) : Int32) = 0)) => ?_)
    · refine R_iconst z83_46 (v := 1) (by decide) ?_
      refine R_goto z83_47 (tn := 51) rfl ?_
      refine R_istore z83_51 (loc' := [some (.ref 25), some (.int p), some (.int c), some (.int b), some (.int 1), some (.int (nI k))]) rfl rfl ?_
      refine R_iinc z83_53 (v := 1) (loc' := [some (.ref 25), some (.int p), some (.int c), some (.int b), some (.int 1), some (.int (nI (k + 1)))]) rfl rfl (by decide) (by rw [nI_1]; rfl) ?_
      refine R_goto z83_56 (tn := 21) rfl ?_
      have e9 : mHas A c k.succ = 1 := by rw [mHas, if_pos (Or.inl h32)]
      have G := ih (k + 1) (by omega)
      rw [e9] at G
      exact G
    · refine R_aload z83_35 rfl ?_
      refine R_get z83_36 (k := 4) (f := 12) (by decide +kernel) rfl rfl ?_
      refine R_iload z83_39 rfl ?_
      refine R_ild z83_41 (n := 300) (f := A 33) (v := (A 33 k)) rfl (nin (by omega) (by decide)) (by rw [ncl (by omega)]) ?_
      refine R_iload z83_42 rfl ?_
      refine R_icmp z83_43 (tn := 50) rfl (fun (h43 : ¬ ((A 33 k) : Int32) = c) => ?_) (fun (h43 : ¬ (¬ ((A 33 k) : Int32) = c)) => ?_)
      · refine R_iconst z83_50 (v := 0) (by decide) ?_
        refine R_istore z83_51 (loc' := [some (.ref 25), some (.int p), some (.int c), some (.int b), some (.int 0), some (.int (nI k))]) rfl rfl ?_
        refine R_iinc z83_53 (v := 1) (loc' := [some (.ref 25), some (.int p), some (.int c), some (.int b), some (.int 0), some (.int (nI (k + 1)))]) rfl rfl (by decide) (by rw [nI_1]; rfl) ?_
        refine R_goto z83_56 (tn := 21) rfl ?_
        have e9 : mHas A c k.succ = 0 := by rw [mHas, if_neg (fun z => z.elim (fun y => h32 y) h43)]
        have G := ih (k + 1) (by omega)
        rw [e9] at G
        exact G
      · refine R_iconst z83_46 (v := 1) (by decide) ?_
        refine R_goto z83_47 (tn := 51) rfl ?_
        refine R_istore z83_51 (loc' := [some (.ref 25), some (.int p), some (.int c), some (.int b), some (.int 1), some (.int (nI k))]) rfl rfl ?_
        refine R_iinc z83_53 (v := 1) (loc' := [some (.ref 25), some (.int p), some (.int c), some (.int b), some (.int 1), some (.int (nI (k + 1)))]) rfl rfl (by decide) (by rw [nI_1]; rfl) ?_
        refine R_goto z83_56 (tn := 21) rfl ?_
        have e9 : mHas A c k.succ = 1 := by rw [mHas, if_pos (Or.inr (Classical.not_not.mp h43))]
        have G := ih (k + 1) (by omega)
        rw [e9] at G
        exact G
theorem s83_1 {l : Launch} {E : jEnv} {A : Nat → Nat → Int32} {V : Nat → Int32} {O : Nat → Int64} {Q : jO → List jC → Prop} {p c : Int32} {n r : Nat} (hW : mWf A V n r) (hQ : Q (.inl (some (.int 0))) (hp A (va_up V 6 1) O)) : GO l E 83 59 [some (.ref 25), some (.int p), some (.int c), some (.int 1), some (.int (mHas A c r)), some (.int (nI r))] [] (hp A V O) 0 0 Q := by
  refine R_aload z83_59 rfl ?_
  refine R_iload z83_60 rfl ?_
  refine R_iload z83_61 rfl ?_
  refine R_aload z83_63 rfl ?_
  refine R_get z83_64 (k := 4) (f := 10) (by decide +kernel) rfl rfl ?_
  refine R_sipush z83_67 (v := 300) (by decide) ?_
  refine R_icmp z83_70 (tn := 77) rfl (fun (h70 : ¬ ((V 10) : Int32) = 300) => ?_) (fun (h70 : ¬ (¬ ((V 10) : Int32) = 300)) => ?_)
  · refine R_iconst z83_77 (v := 0) (by decide) ?_
    refine R_iconst z83_78 (v := 0) (by decide) ?_
    refine R_cv z83_79 (k := 63) (by decide +kernel) rfl rfl (by decide +kernel) (Nat.le_of_ble_eq_true (by rfl)) rfl ⟨rfl, trivial⟩ ?_
    refine s63k (n := 1) (if_pos (by decide)) (by decide) (jBk_ret rfl ⟨rfl, rfl⟩ ?_)
    refine R_if z83_82 (tn := 87) rfl (fun q => absurd (show (1 : Int32) = 0 from q) (by decide)) (fun _ => ?_)
    refine R_iconst z83_85 (v := 0) (by decide) ?_
    exact R_iret z83_86 (Or.inl (by decide +kernel)) ⟨Nat.zero_le _, Nat.zero_le _⟩ (hQ)
  · refine R_iconst z83_73 (v := 1) (by decide) ?_
    refine R_goto z83_74 (tn := 78) rfl ?_
    refine R_iconst z83_78 (v := 0) (by decide) ?_
    refine R_cv z83_79 (k := 63) (by decide +kernel) rfl rfl (by decide +kernel) (Nat.le_of_ble_eq_true (by rfl)) rfl ⟨rfl, trivial⟩ ?_
    refine s63k (n := 1) (if_pos (by decide)) (by decide) (jBk_ret rfl ⟨rfl, rfl⟩ ?_)
    refine R_if z83_82 (tn := 87) rfl (fun q => absurd (show (1 : Int32) = 0 from q) (by decide)) (fun _ => ?_)
    refine R_iconst z83_85 (v := 0) (by decide) ?_
    exact R_iret z83_86 (Or.inl (by decide +kernel)) ⟨Nat.zero_le _, Nat.zero_le _⟩ (hQ)
theorem s83_2 {l : Launch} {E : jEnv} {A : Nat → Nat → Int32} {V : Nat → Int32} {O : Nat → Int64} {Q : jO → List jC → Prop} {p c : Int32} {n r : Nat} (hW : mWf A V n r) (hh : ¬ mHas A c r = 0) (hQ : Q (.inl (some (.int 0))) (hp A (va_up V 6 2) O)) : GO l E 83 59 [some (.ref 25), some (.int p), some (.int c), some (.int 0), some (.int (mHas A c r)), some (.int (nI r))] [] (hp A V O) 0 0 Q := by
  refine R_aload z83_59 rfl ?_
  refine R_iload z83_60 rfl ?_
  refine R_iload z83_61 rfl ?_
  refine R_aload z83_63 rfl ?_
  refine R_get z83_64 (k := 4) (f := 10) (by decide +kernel) rfl rfl ?_
  refine R_sipush z83_67 (v := 300) (by decide) ?_
  refine R_icmp z83_70 (tn := 77) rfl (fun (h70 : ¬ ((V 10) : Int32) = 300) => ?_) (fun (h70 : ¬ (¬ ((V 10) : Int32) = 300)) => ?_)
  · refine R_iconst z83_77 (v := 0) (by decide) ?_
    refine R_iconst z83_78 (v := 0) (by decide) ?_
    refine R_cv z83_79 (k := 63) (by decide +kernel) rfl rfl (by decide +kernel) (Nat.le_of_ble_eq_true (by rfl)) rfl ⟨rfl, trivial⟩ ?_
    refine s63k (n := 2) ((if_neg (by decide)).trans (if_pos hh)) (by decide) (jBk_ret rfl ⟨rfl, rfl⟩ ?_)
    refine R_if z83_82 (tn := 87) rfl (fun q => absurd (show (1 : Int32) = 0 from q) (by decide)) (fun _ => ?_)
    refine R_iconst z83_85 (v := 0) (by decide) ?_
    exact R_iret z83_86 (Or.inl (by decide +kernel)) ⟨Nat.zero_le _, Nat.zero_le _⟩ (hQ)
  · refine R_iconst z83_73 (v := 1) (by decide) ?_
    refine R_goto z83_74 (tn := 78) rfl ?_
    refine R_iconst z83_78 (v := 0) (by decide) ?_
    refine R_cv z83_79 (k := 63) (by decide +kernel) rfl rfl (by decide +kernel) (Nat.le_of_ble_eq_true (by rfl)) rfl ⟨rfl, trivial⟩ ?_
    refine s63k (n := 2) ((if_neg (by decide)).trans (if_pos hh)) (by decide) (jBk_ret rfl ⟨rfl, rfl⟩ ?_)
    refine R_if z83_82 (tn := 87) rfl (fun q => absurd (show (1 : Int32) = 0 from q) (by decide)) (fun _ => ?_)
    refine R_iconst z83_85 (v := 0) (by decide) ?_
    exact R_iret z83_86 (Or.inl (by decide +kernel)) ⟨Nat.zero_le _, Nat.zero_le _⟩ (hQ)
theorem s83_3 {l : Launch} {E : jEnv} {A : Nat → Nat → Int32} {V : Nat → Int32} {O : Nat → Int64} {Q : jO → List jC → Prop} {p c : Int32} {n r : Nat} (hW : mWf A V n r) (hh : mHas A c r = 0) (hU : ¬ r < 300 → Q (.inl (some (.int 0))) (hp A (va_up V 6 3) O)) (hQ : r < 300 → Q (.inl (some (.int (nI r)))) (hp (mAdd A V r p c 1) (va_up (va_up V 6 0) 10 (nI (r + 1))) O)) : GO l E 83 59 [some (.ref 25), some (.int p), some (.int c), some (.int 0), some (.int (mHas A c r)), some (.int (nI r))] [] (hp A V O) 0 0 Q := by
  refine R_aload z83_59 rfl ?_
  refine R_iload z83_60 rfl ?_
  refine R_iload z83_61 rfl ?_
  refine R_aload z83_63 rfl ?_
  refine R_get z83_64 (k := 4) (f := 10) (by decide +kernel) rfl rfl ?_
  refine R_sipush z83_67 (v := 300) (by decide) ?_
  refine R_icmp z83_70 (tn := 77) rfl (fun (h70 : ¬ ((V 10) : Int32) = 300) => ?_) (fun (h70 : ¬ (¬ ((V 10) : Int32) = 300)) => ?_)
  · refine R_iconst z83_77 (v := 0) (by decide) ?_
    refine R_iconst z83_78 (v := 0) (by decide) ?_
    refine R_cv z83_79 (k := 63) (by decide +kernel) rfl rfl (by decide +kernel) (Nat.le_of_ble_eq_true (by rfl)) rfl ⟨rfl, trivial⟩ ?_
    refine s63z ((if_neg (by decide)).trans ((if_neg (fun z => z hh)).trans ((if_neg (by decide)).trans (if_neg (by decide))))) (jBk_ret rfl ⟨rfl, rfl⟩ ?_)
    refine R_if z83_82 (tn := 87) rfl (fun _ => ?_) (fun q => absurd (show (0 : Int32) = 0 by decide) q)
    refine R_aload z83_87 rfl ?_
    refine R_iload z83_88 rfl ?_
    refine R_iload z83_89 rfl ?_
    refine R_iconst z83_90 (v := 1) (by decide) ?_
    refine R_cv z83_91 (k := 81) (by decide +kernel) rfl rfl (by decide +kernel) (Nat.le_of_ble_eq_true (by rfl)) rfl ⟨rfl, trivial⟩ ?_
    refine s81 (show (va_up V 6 0) 10 = nI r from hW.2.2.1) (r300 hW.2.2.1 hW.2.2.2.1 h70) (jBk_ret rfl ⟨rfl, rfl⟩ ?_)
    exact R_iret z83_94 (Or.inl (by decide +kernel)) ⟨Nat.zero_le _, Nat.zero_le _⟩ (hQ (r300 hW.2.2.1 hW.2.2.2.1 h70))
  · refine R_iconst z83_73 (v := 1) (by decide) ?_
    refine R_goto z83_74 (tn := 78) rfl ?_
    refine R_iconst z83_78 (v := 0) (by decide) ?_
    refine R_cv z83_79 (k := 63) (by decide +kernel) rfl rfl (by decide +kernel) (Nat.le_of_ble_eq_true (by rfl)) rfl ⟨rfl, trivial⟩ ?_
    refine s63k (n := 3) ((if_neg (by decide)).trans ((if_neg (fun z => z hh)).trans (if_pos (by decide)))) (by decide) (jBk_ret rfl ⟨rfl, rfl⟩ ?_)
    refine R_if z83_82 (tn := 87) rfl (fun q => absurd (show (1 : Int32) = 0 from q) (by decide)) (fun _ => ?_)
    refine R_iconst z83_85 (v := 0) (by decide) ?_
    exact R_iret z83_86 (Or.inl (by decide +kernel)) ⟨Nat.zero_le _, Nat.zero_le _⟩ (hU (r300n hW.2.2.1 hW.2.2.2.1 (Classical.not_not.mp h70)))
theorem s83x {l : Launch} {E : jEnv} {A : Nat → Nat → Int32} {V : Nat → Int32} {O : Nat → Int64} {Q : jO → List jC → Prop} {p c : Int32} { n r : Nat} (hW : mWf A V n r) (hbad : (p < 0 ∨ ¬ p < 20 ∨ c < 0 ∨ ¬ c < nI n)) (hQ : Q (.inl (some (.int 0))) (hp A (va_up V 6 1) O)) : GO l E 83 0 [some (.ref 25), some (.int p), some (.int c), none, none, none] [] (hp A V O) 0 0 Q := by
  refine R_aload z83_0 rfl ?_
  refine R_iload z83_1 rfl ?_
  refine R_iload z83_2 rfl ?_
  refine R_cv z83_3 (k := 66) (by decide +kernel) rfl rfl (by decide +kernel) (Nat.le_of_ble_eq_true (by rfl)) rfl ⟨rfl, trivial⟩ ?_
  refine s66 hW.1 hW.2.1 (fun p2 c2 e1 e2 l1 l2 => absurd hbad (npb e1 e2 l1 l2 hW.2.1)) (fun _ => jBk_ret rfl ⟨rfl, rfl⟩ ?_)
  refine R_if z83_6 (tn := 13) rfl (fun q => absurd (show ¬ (0 : Int32) = 0 from q) (by decide)) (fun _ => ?_)
  refine R_iconst z83_9 (v := 1) (by decide) ?_
  refine R_goto z83_10 (tn := 14) rfl ?_
  refine R_istore z83_14 (loc' := [some (.ref 25), some (.int p), some (.int c), some (.int 1), none, none]) rfl rfl ?_
  refine R_iconst z83_15 (v := 0) (by decide) ?_
  refine R_istore z83_16 (loc' := [some (.ref 25), some (.int p), some (.int c), some (.int 1), some (.int 0), none]) rfl rfl ?_
  refine R_iconst z83_18 (v := 0) (by decide) ?_
  refine R_istore z83_19 (loc' := [some (.ref 25), some (.int p), some (.int c), some (.int 1), some (.int 0), some (.int 0)]) rfl rfl ?_
  exact s83_lp hW (s83_1 hW hQ) r 0 (by omega)
theorem s83 {l : Launch} {E : jEnv} {A : Nat → Nat → Int32} {V : Nat → Int32} {O : Nat → Int64} {Q : jO → List jC → Prop} {p c n r : Nat} (hW : mWf A V n r) (hp2 : p < 20) (hcn : c < n) (hc : c < 16) (hS : ¬ mHas A (nI c) r = 0 → Q (.inl (some (.int 0))) (hp A (va_up V 6 2) O)) (hU : mHas A (nI c) r = 0 → ¬ r < 300 → Q (.inl (some (.int 0))) (hp A (va_up V 6 3) O)) (hQ : mHas A (nI c) r = 0 → r < 300 → Q (.inl (some (.int (nI r)))) (hp (mAdd A V r (nI p) (nI c) 1) (va_up (va_up V 6 0) 10 (nI (r + 1))) O)) : GO l E 83 0 [some (.ref 25), some (.int (nI p)), some (.int (nI c)), none, none, none] [] (hp A V O) 0 0 Q := by
  refine R_aload z83_0 rfl ?_
  refine R_iload z83_1 rfl ?_
  refine R_iload z83_2 rfl ?_
  refine R_cv z83_3 (k := 66) (by decide +kernel) rfl rfl (by decide +kernel) (Nat.le_of_ble_eq_true (by rfl)) rfl ⟨rfl, trivial⟩ ?_
  refine s66 hW.1 hW.2.1 (fun _ _ _ _ _ _ => jBk_ret rfl ⟨rfl, rfl⟩ ?_) (fun g => absurd g (npb rfl rfl hp2 hcn hW.2.1))
  refine R_if z83_6 (tn := 13) rfl (fun _ => ?_) (fun q => absurd (show ¬ (1 : Int32) = 0 by decide) q)
  refine R_iconst z83_13 (v := 0) (by decide) ?_
  refine R_istore z83_14 (loc' := [some (.ref 25), some (.int (nI p)), some (.int (nI c)), some (.int 0), none, none]) rfl rfl ?_
  refine R_iconst z83_15 (v := 0) (by decide) ?_
  refine R_istore z83_16 (loc' := [some (.ref 25), some (.int (nI p)), some (.int (nI c)), some (.int 0), some (.int 0), none]) rfl rfl ?_
  refine R_iconst z83_18 (v := 0) (by decide) ?_
  refine R_istore z83_19 (loc' := [some (.ref 25), some (.int (nI p)), some (.int (nI c)), some (.int 0), some (.int 0), some (.int 0)]) rfl rfl ?_
  refine s83_lp hW ?_ r 0 (by omega)
  rcases Classical.em (mHas A (nI c) r = 0) with hh | hh
  · exact s83_3 hW hh (hU hh) (hQ hh)
  · exact s83_2 hW hh (hS hh)
theorem s85x {l : Launch} {E : jEnv} {A : Nat → Nat → Int32} {V : Nat → Int32} {O : Nat → Int64} {Q : jO → List jC → Prop} {p c : Int32} { n r : Nat} (hW : mWf A V n r) (hbad : (p < 0 ∨ ¬ p < 20 ∨ c < 0 ∨ ¬ c < nI n)) (hQ : Q (.inl (some (.int 0))) (hp A (va_up V 6 1) O)) : GO l E 85 0 [some (.ref 25), some (.int p), some (.int c), none, none] [] (hp A V O) 0 0 Q := by
  refine R_aload z85_0 rfl ?_
  refine R_iload z85_1 rfl ?_
  refine R_iload z85_2 rfl ?_
  refine R_cv z85_3 (k := 66) (by decide +kernel) rfl rfl (by decide +kernel) (Nat.le_of_ble_eq_true (by rfl)) rfl ⟨rfl, trivial⟩ ?_
  refine s66 hW.1 hW.2.1 (fun p2 c2 e1 e2 l1 l2 => absurd hbad (npb e1 e2 l1 l2 hW.2.1)) (fun _ => jBk_ret rfl ⟨rfl, rfl⟩ ?_)
  refine R_if z85_6 (tn := 13) rfl (fun q => absurd (show ¬ (0 : Int32) = 0 from q) (by decide)) (fun _ => ?_)
  refine R_iconst z85_9 (v := 1) (by decide) ?_
  refine R_goto z85_10 (tn := 14) rfl ?_
  refine R_istore z85_14 (loc' := [some (.ref 25), some (.int p), some (.int c), some (.int 1), none]) rfl rfl ?_
  refine R_aload z85_15 rfl ?_
  refine R_iload z85_16 rfl ?_
  refine R_iload z85_17 rfl ?_
  refine R_if z85_18 (tn := 38) rfl (fun _ => ?_) (fun q => absurd (show ¬ (1 : Int32) = 0 by decide) q)
  refine R_iconst z85_38 (v := 0) (by decide) ?_
  refine R_iconst z85_39 (v := 0) (by decide) ?_
  refine R_iconst z85_40 (v := 0) (by decide) ?_
  refine R_cv z85_41 (k := 63) (by decide +kernel) rfl rfl (by decide +kernel) (Nat.le_of_ble_eq_true (by rfl)) rfl ⟨rfl, trivial⟩ ?_
  refine s63 (fun q => absurd q (by decide)) (fun _ => jBk_ret rfl ⟨rfl, rfl⟩ ?_)
  refine R_if z85_44 (tn := 49) rfl (fun q => absurd (show (1 : Int32) = 0 from q) (by decide)) (fun _ => ?_)
  refine R_iconst z85_47 (v := 0) (by decide) ?_
  exact R_iret z85_48 (Or.inl (by decide +kernel)) ⟨Nat.zero_le _, Nat.zero_le _⟩ (hQ)
def mUse1 (A : Nat → Nat → Int32) (V : Nat → Int32) (x u : Nat) : Nat → Nat → Int32 := va_up (va_up A 37 (upd (A 37) (50 * x + u) (V 7))) 36 (upd (A 36) x (nI (u + 1)))
def mUse2 (A : Nat → Nat → Int32) (V : Nat → Int32) (p c : Nat) : Nat → Nat → Int32 := va_up A 38 (upd (A 38) (16 * p + c) (V 7))
theorem upd_at {f : Nat → Int32} {j : Nat} {v : Int32} : upd f j v j = v := if_pos rfl
theorem u50 {u : Nat} {m : Int32} (hu : u ≤ 50) (h : ¬ m ≤ nI u) (hm : m ≤ 50) : u < 50 := by
  have h1 : (nI u).toInt = u := nI_toInt (by omega)
  have h2 := Int32.lt_iff_toInt_lt.mp (Int32.not_le.mp h)
  have h3 := Int32.le_iff_toInt_le.mp hm
  have h4 : (50 : Int32).toInt = 50 := by decide
  omega
theorem s73x {l : Launch} {E : jEnv} {A : Nat → Nat → Int32} {V : Nat → Int32} {O : Nat → Int64} {Q : jO → List jC → Prop} {p c d y : Int32} {n r : Nat} (hW : mWf A V n r) (e : mPass A p c d r = y) (hQ : Q (.inl (some (.int y))) (hp A V O)) : GO l E 73 0 [some (.ref 25), some (.int p), some (.int c), some (.int d), none, none] [] (hp A V O) 0 0 Q := by subst e; exact s73 hW hQ
theorem s85 {l : Launch} {E : jEnv} {A : Nat → Nat → Int32} {V : Nat → Int32} {O : Nat → Int64} {Q : jO → List jC → Prop} {p c n r : Nat} (hW : mWf A V n r) (hp2 : p < 20) (hcn : c < n) (hc : c < 16) (hcap : A 28 c ≤ 50) (hS : ¬ mHeld A r (nI p) (nI c) (V 7) → Q (.inl (some (.int 0))) (hp A (va_up V 6 2) O)) (hQ1 : mHeld A r (nI p) (nI c) (V 7) → ∀ x u, x < r → u ≤ 50 → mPass A (nI p) (nI c) (V 7) r = nI x → A 36 x = nI u → ¬ A 38 (16 * p + c) = V 7 → nI u < A 28 c → Q (.inl (some (.int (nI (u + 1))))) (hp (mUse2 (mUse1 A V x u) V p c) (va_up V 6 0) O)) (hQ0 : mHeld A r (nI p) (nI c) (V 7) → ∀ x u, x < r → u ≤ 50 → mPass A (nI p) (nI c) (V 7) r = nI x → A 36 x = nI u → (A 38 (16 * p + c) = V 7 ∨ ¬ nI u < A 28 c) → Q (.inl (some (.int (nI u)))) (hp (mUse2 A V p c) (va_up V 6 0) O)) : GO l E 85 0 [some (.ref 25), some (.int (nI p)), some (.int (nI c)), none, none] [] (hp A V O) 0 0 Q := by
  refine R_aload z85_0 rfl ?_
  refine R_iload z85_1 rfl ?_
  refine R_iload z85_2 rfl ?_
  refine R_cv z85_3 (k := 66) (by decide +kernel) rfl rfl (by decide +kernel) (Nat.le_of_ble_eq_true (by rfl)) rfl ⟨rfl, trivial⟩ ?_
  refine s66 hW.1 hW.2.1 (fun _ _ _ _ _ _ => jBk_ret rfl ⟨rfl, rfl⟩ ?_) (fun g => absurd g (npb rfl rfl hp2 hcn hW.2.1))
  refine R_if z85_6 (tn := 13) rfl (fun _ => ?_) (fun q => absurd (show ¬ (1 : Int32) = 0 by decide) q)
  refine R_iconst z85_13 (v := 0) (by decide) ?_
  refine R_istore z85_14 (loc' := [some (.ref 25), some (.int (nI p)), some (.int (nI c)), some (.int 0), none]) rfl rfl ?_
  refine R_aload z85_15 rfl ?_
  refine R_iload z85_16 rfl ?_
  refine R_iload z85_17 rfl ?_
  refine R_if z85_18 (tn := 38) rfl (fun q => absurd (show ¬ (0 : Int32) = 0 from q) (by decide)) (fun _ => ?_)
  refine R_aload z85_21 rfl ?_
  refine R_iload z85_22 rfl ?_
  refine R_iload z85_23 rfl ?_
  refine R_aload z85_24 rfl ?_
  refine R_get z85_25 (k := 4) (f := 1) (by decide +kernel) rfl rfl ?_
  refine R_cv z85_28 (k := 75) (by decide +kernel) rfl rfl (by decide +kernel) (Nat.le_of_ble_eq_true (by rfl)) rfl ⟨rfl, trivial⟩ ?_
  refine s75 hW (fun g => jBk_ret rfl ⟨rfl, rfl⟩ ?_) (fun g => jBk_ret rfl ⟨rfl, rfl⟩ ?_)
  · refine R_if z85_31 (tn := 38) rfl (fun _ => ?_) (fun q => absurd (show ¬ (1 : Int32) = 0 by decide) q)
    refine R_iconst z85_38 (v := 0) (by decide) ?_
    refine R_iconst z85_39 (v := 0) (by decide) ?_
    refine R_iconst z85_40 (v := 0) (by decide) ?_
    refine R_cv z85_41 (k := 63) (by decide +kernel) rfl rfl (by decide +kernel) (Nat.le_of_ble_eq_true (by rfl)) rfl ⟨rfl, trivial⟩ ?_
    refine s63 (fun _ => jBk_ret rfl ⟨rfl, rfl⟩ ?_) (fun q => absurd rfl q)
    refine R_if z85_44 (tn := 49) rfl (fun _ => ?_) (fun q => absurd (show (0 : Int32) = 0 by decide) q)
    obtain ⟨x, hx, ex⟩ := mPass_nat hW.2.2.2.1 g.1
    obtain ⟨⟨o, ho, eo⟩, u, hu, eu⟩ := hW.2.2.2.2 x hx
    have hr3 := hW.2.2.2.1
    refine R_aload z85_49 rfl ?_
    refine R_iload z85_50 rfl ?_
    refine R_iload z85_51 rfl ?_
    refine R_aload z85_52 rfl ?_
    refine R_get z85_53 (k := 4) (f := 1) (by decide +kernel) rfl rfl ?_
    refine R_cv z85_56 (k := 73) (by decide +kernel) rfl rfl (by decide +kernel) (Nat.le_of_ble_eq_true (by rfl)) rfl ⟨rfl, trivial⟩ ?_
    refine s73x (show mWf A (va_up V 6 0) n r from hW) ex (jBk_ret rfl ⟨rfl, rfl⟩ ?_)
    refine R_istore z85_59 (loc' := [some (.ref 25), some (.int (nI p)), some (.int (nI c)), some (.int 0), some (.int (nI x))]) rfl rfl ?_
    refine R_aload z85_61 rfl ?_
    refine R_get z85_62 (k := 4) (f := 17) (by decide +kernel) rfl rfl ?_
    refine R_bipush z85_65 (v := 16) (by decide) ?_
    refine R_iload z85_67 rfl ?_
    refine R_imul z85_68 ?_
    refine R_iload z85_69 rfl ?_
    refine R_iadd z85_70 ?_
    refine R_top (y := nI (16 * p + c)) (mp16 p c) ?_
    refine R_ild z85_71 (n := 320) (f := A 38) (v := (A 38 (16 * p + c))) rfl (nin (by omega) (by decide)) (by rw [ncl (by omega)]) ?_
    refine R_aload z85_72 rfl ?_
    refine R_get z85_73 (k := 4) (f := 1) (by decide +kernel) rfl rfl ?_
    refine R_icmp z85_76 (tn := 128) rfl (fun (h76 : ((A 38 (16 * p + c)) : Int32) = ((va_up V 6 0) 7)) => ?_) (fun (h76 : ¬ ((A 38 (16 * p + c)) : Int32) = ((va_up V 6 0) 7)) => ?_)
    · refine R_aload z85_128 rfl ?_
      refine R_get z85_129 (k := 4) (f := 17) (by decide +kernel) rfl rfl ?_
      refine R_bipush z85_132 (v := 16) (by decide) ?_
      refine R_iload z85_134 rfl ?_
      refine R_imul z85_135 ?_
      refine R_iload z85_136 rfl ?_
      refine R_iadd z85_137 ?_
      refine R_top (y := nI (16 * p + c)) (mp16 p c) ?_
      refine R_aload z85_138 rfl ?_
      refine R_get z85_139 (k := 4) (f := 1) (by decide +kernel) rfl rfl ?_
      refine R_ist z85_142 (n := 320) (f := A 38) (h' := hp (mUse2 A V p c) (va_up V 6 0) O) rfl (nin (by omega) (by decide)) (by rw [ncl (by omega)]; rfl) ?_
      refine R_aload z85_143 rfl ?_
      refine R_get z85_144 (k := 4) (f := 15) (by decide +kernel) rfl rfl ?_
      refine R_iload z85_147 rfl ?_
      refine R_ild z85_149 (n := 300) (f := (mUse2 A V p c) 36) (v := (nI u)) rfl (nin (by omega) (by decide)) (by rw [ncl (by omega)]; exact eu) ?_
      exact R_iret z85_150 (Or.inl (by decide +kernel)) ⟨Nat.zero_le _, Nat.zero_le _⟩ (hQ0 g x u hx hu ex eu (Or.inl h76))
    · refine R_aload z85_79 rfl ?_
      refine R_get z85_80 (k := 4) (f := 15) (by decide +kernel) rfl rfl ?_
      refine R_iload z85_83 rfl ?_
      refine R_ild z85_85 (n := 300) (f := A 36) (v := (nI u)) rfl (nin (by omega) (by decide)) (by rw [ncl (by omega)]; exact eu) ?_
      refine R_aload z85_86 rfl ?_
      refine R_get z85_87 (k := 4) (f := 6) (by decide +kernel) rfl rfl ?_
      refine R_iload z85_90 rfl ?_
      refine R_ild z85_91 (n := 16) (f := A 28) (v := (A 28 c)) rfl (nin hc (by decide)) (by rw [ncl (by omega)]) ?_
      refine R_icmp z85_92 (tn := 128) rfl (fun (h92 : ((A 28 c) : Int32) ≤ (nI u)) => ?_) (fun (h92 : ¬ ((A 28 c) : Int32) ≤ (nI u)) => ?_)
      · refine R_aload z85_128 rfl ?_
        refine R_get z85_129 (k := 4) (f := 17) (by decide +kernel) rfl rfl ?_
        refine R_bipush z85_132 (v := 16) (by decide) ?_
        refine R_iload z85_134 rfl ?_
        refine R_imul z85_135 ?_
        refine R_iload z85_136 rfl ?_
        refine R_iadd z85_137 ?_
        refine R_top (y := nI (16 * p + c)) (mp16 p c) ?_
        refine R_aload z85_138 rfl ?_
        refine R_get z85_139 (k := 4) (f := 1) (by decide +kernel) rfl rfl ?_
        refine R_ist z85_142 (n := 320) (f := A 38) (h' := hp (mUse2 A V p c) (va_up V 6 0) O) rfl (nin (by omega) (by decide)) (by rw [ncl (by omega)]; rfl) ?_
        refine R_aload z85_143 rfl ?_
        refine R_get z85_144 (k := 4) (f := 15) (by decide +kernel) rfl rfl ?_
        refine R_iload z85_147 rfl ?_
        refine R_ild z85_149 (n := 300) (f := (mUse2 A V p c) 36) (v := (nI u)) rfl (nin (by omega) (by decide)) (by rw [ncl (by omega)]; exact eu) ?_
        exact R_iret z85_150 (Or.inl (by decide +kernel)) ⟨Nat.zero_le _, Nat.zero_le _⟩ (hQ0 g x u hx hu ex eu (Or.inr (Int32.not_lt.mpr h92)))
      · have hu5 := u50 hu h92 hcap
        refine R_aload z85_95 rfl ?_
        refine R_get z85_96 (k := 4) (f := 16) (by decide +kernel) rfl rfl ?_
        refine R_bipush z85_99 (v := 50) (by decide) ?_
        refine R_iload z85_101 rfl ?_
        refine R_imul z85_103 ?_
        refine R_aload z85_104 rfl ?_
        refine R_get z85_105 (k := 4) (f := 15) (by decide +kernel) rfl rfl ?_
        refine R_iload z85_108 rfl ?_
        refine R_ild z85_110 (n := 300) (f := A 36) (v := (nI u)) rfl (nin (by omega) (by decide)) (by rw [ncl (by omega)]; exact eu) ?_
        refine R_iadd z85_111 ?_
        refine R_top (y := nI (50 * x + u)) (by rw [show (50 : Int32) = nI 50 by decide, pk_mul, nI_add]) ?_
        refine R_aload z85_112 rfl ?_
        refine R_get z85_113 (k := 4) (f := 1) (by decide +kernel) rfl rfl ?_
        refine R_ist z85_116 (n := 15000) (f := A 37) (h' := hp (va_up A 37 (upd (A 37) (50 * x + u) (V 7))) (va_up V 6 0) O) rfl (nin (by omega) (by decide)) (by rw [ncl (by omega)]; rfl) ?_
        refine R_aload z85_117 rfl ?_
        refine R_get z85_118 (k := 4) (f := 15) (by decide +kernel) rfl rfl ?_
        refine R_iload z85_121 rfl ?_
        refine R_dup2 z85_123 ?_
        refine R_ild z85_124 (n := 300) (f := (va_up A 37 (upd (A 37) (50 * x + u) (V 7))) 36) (v := (nI u)) rfl (nin (by omega) (by decide)) (by rw [ncl (by omega)]; exact eu) ?_
        refine R_iconst z85_125 (v := 1) (by decide) ?_
        refine R_iadd z85_126 ?_
        refine R_top (y := nI (u + 1)) (nI_1 _) ?_
        refine R_ist z85_127 (n := 300) (f := (va_up A 37 (upd (A 37) (50 * x + u) (V 7))) 36) (h' := hp (mUse1 A V x u) (va_up V 6 0) O) rfl (nin (by omega) (by decide)) (by rw [ncl (by omega)]; rfl) ?_
        refine R_aload z85_128 rfl ?_
        refine R_get z85_129 (k := 4) (f := 17) (by decide +kernel) rfl rfl ?_
        refine R_bipush z85_132 (v := 16) (by decide) ?_
        refine R_iload z85_134 rfl ?_
        refine R_imul z85_135 ?_
        refine R_iload z85_136 rfl ?_
        refine R_iadd z85_137 ?_
        refine R_top (y := nI (16 * p + c)) (mp16 p c) ?_
        refine R_aload z85_138 rfl ?_
        refine R_get z85_139 (k := 4) (f := 1) (by decide +kernel) rfl rfl ?_
        refine R_ist z85_142 (n := 320) (f := (mUse1 A V x u) 38) (h' := hp (mUse2 (mUse1 A V x u) V p c) (va_up V 6 0) O) rfl (nin (by omega) (by decide)) (by rw [ncl (by omega)]; rfl) ?_
        refine R_aload z85_143 rfl ?_
        refine R_get z85_144 (k := 4) (f := 15) (by decide +kernel) rfl rfl ?_
        refine R_iload z85_147 rfl ?_
        refine R_ild z85_149 (n := 300) (f := (mUse2 (mUse1 A V x u) V p c) 36) (v := (nI (u + 1))) rfl (nin (by omega) (by decide)) (by rw [ncl (by omega)]; exact upd_at) ?_
        exact R_iret z85_150 (Or.inl (by decide +kernel)) ⟨Nat.zero_le _, Nat.zero_le _⟩ (hQ1 g x u hx hu ex eu h76 (Int32.not_le.mp h92))
  · refine R_if z85_31 (tn := 38) rfl (fun q => absurd (show ¬ (0 : Int32) = 0 from q) (by decide)) (fun _ => ?_)
    refine R_iconst z85_34 (v := 1) (by decide) ?_
    refine R_goto z85_35 (tn := 39) rfl ?_
    refine R_iconst z85_39 (v := 0) (by decide) ?_
    refine R_iconst z85_40 (v := 0) (by decide) ?_
    refine R_cv z85_41 (k := 63) (by decide +kernel) rfl rfl (by decide +kernel) (Nat.le_of_ble_eq_true (by rfl)) rfl ⟨rfl, trivial⟩ ?_
    refine s63 (fun q => absurd q (by decide)) (fun _ => jBk_ret rfl ⟨rfl, rfl⟩ ?_)
    refine R_if z85_44 (tn := 49) rfl (fun q => absurd (show (1 : Int32) = 0 from q) (by decide)) (fun _ => ?_)
    refine R_iconst z85_47 (v := 0) (by decide) ?_
    exact R_iret z85_48 (Or.inl (by decide +kernel)) ⟨Nat.zero_le _, Nat.zero_le _⟩ (hS g)
def mTomB (A : Nat → Nat → Int32) (V : Nat → Int32) (r p c : Nat) : Prop := mHeld A r (nI p) (nI c) (V 7) ∧ mLap A (mPass A (nI p) (nI c) (V 7) r).toNatClampNeg (V 7) = V 7 + 1
noncomputable def mTom (A : Nat → Nat → Int32) (V : Nat → Int32) (r c : Nat) : Nat → Nat → Int32 → Int32
  | 0, _, _ => -1
  | d + 1, k, b => @ite _ (mTomB A V r k c) (Classical.propDecidable _) (if b = 0 then nI k else mTom A V r c d (k + 1) (b + (-1))) (mTom A V r c d (k + 1) b)
theorem s98_lp {l : Launch} {E : jEnv} {A : Nat → Nat → Int32} {V : Nat → Int32} {O : Nat → Int64} {Q : jO → List jC → Prop} {c n r : Nat} {i : Int32} (hW : mWf A V n r) (hc : c < 16) : ∀ (d k : Nat) (b : Int32), k + d = 20 → Q (.inl (some (.int (mTom A V r c d k b)))) (hp A V O) → GO l E 98 38 [some (.ref 25), some (.int (nI c)), some (.int i), some (.int b), some (.int (nI k))] [] (hp A V O) 0 0 Q := by
  intro d
  induction d with
  | zero =>
    intro k b hk hQ
    have hn16 := hW.2.1
    have hr300 := hW.2.2.2.1
    refine R_iload z98_38 rfl ?_
    refine R_bipush z98_40 (v := 20) (by decide) ?_
    refine R_icmp z98_42 (tn := 103) rfl (fun (h42 : (20 : Int32) ≤ (nI k)) => ?_) (fun q => absurd ((show (20 : Int32) ≤ nI k by rw [n20, nge (by omega) (by omega)]; omega)) q)
    refine R_iconst z98_103 (v := (-1)) (by decide) ?_
    exact R_iret z98_104 (Or.inl (by decide +kernel)) ⟨Nat.zero_le _, Nat.zero_le _⟩ (hQ)
  | succ d ih =>
    intro k b hk hQ
    have hn16 := hW.2.1
    have hr300 := hW.2.2.2.1
    refine R_iload z98_38 rfl ?_
    refine R_bipush z98_40 (v := 20) (by decide) ?_
    refine R_icmp z98_42 (tn := 103) rfl (fun q => absurd q ((show ¬ (20 : Int32) ≤ nI k by rw [n20, nge (by omega) (by omega)]; omega))) (fun (h42 : ¬ (20 : Int32) ≤ (nI k)) => ?_)
    refine R_aload z98_45 rfl ?_
    refine R_iload z98_46 rfl ?_
    refine R_iload z98_48 rfl ?_
    refine R_aload z98_49 rfl ?_
    refine R_get z98_50 (k := 4) (f := 1) (by decide +kernel) rfl rfl ?_
    refine R_cv z98_53 (k := 75) (by decide +kernel) rfl rfl (by decide +kernel) (Nat.le_of_ble_eq_true (by rfl)) rfl ⟨rfl, trivial⟩ ?_
    refine s75 hW (fun g => jBk_ret rfl ⟨rfl, rfl⟩ ?_) (fun g => jBk_ret rfl ⟨rfl, rfl⟩ ?_)
    · refine R_if z98_56 (tn := 97) rfl (fun q => absurd (show (1 : Int32) = 0 from q) (by decide)) (fun _ => ?_)
      obtain ⟨x, hx, ex⟩ := mPass_nat hW.2.2.2.1 g.1
      refine R_aload z98_59 rfl ?_
      refine R_aload z98_60 rfl ?_
      refine R_iload z98_61 rfl ?_
      refine R_iload z98_63 rfl ?_
      refine R_aload z98_64 rfl ?_
      refine R_get z98_65 (k := 4) (f := 1) (by decide +kernel) rfl rfl ?_
      refine R_cv z98_68 (k := 73) (by decide +kernel) rfl rfl (by decide +kernel) (Nat.le_of_ble_eq_true (by rfl)) rfl ⟨rfl, trivial⟩ ?_
      refine s73x hW ex (jBk_ret rfl ⟨rfl, rfl⟩ ?_)
      refine R_aload z98_71 rfl ?_
      refine R_get z98_72 (k := 4) (f := 1) (by decide +kernel) rfl rfl ?_
      refine R_cv z98_75 (k := 74) (by decide +kernel) rfl rfl (by decide +kernel) (Nat.le_of_ble_eq_true (by rfl)) rfl ⟨rfl, trivial⟩ ?_
      refine s74 hW hx (jBk_ret rfl ⟨rfl, rfl⟩ ?_)
      refine R_aload z98_78 rfl ?_
      refine R_get z98_79 (k := 4) (f := 1) (by decide +kernel) rfl rfl ?_
      refine R_iconst z98_82 (v := 1) (by decide) ?_
      refine R_iadd z98_83 ?_
      refine R_icmp z98_84 (tn := 97) rfl (fun (h84 : ¬ ((mLap A x (V 7)) : Int32) = ((V 7) + 1)) => ?_) (fun (h84 : ¬ (¬ ((mLap A x (V 7)) : Int32) = ((V 7) + 1))) => ?_)
      · refine R_iinc z98_97 (v := 1) (loc' := [some (.ref 25), some (.int (nI c)), some (.int i), some (.int b), some (.int (nI (k + 1)))]) rfl rfl (by decide) (by rw [nI_1]; rfl) ?_
        refine R_goto z98_100 (tn := 38) rfl ?_
        rw [mTom, if_neg (fun z => h84 (by have y := z.2; rw [ex, ncl (by omega)] at y; exact y))] at hQ
        exact ih (k + 1) _ (by omega) hQ
      · refine R_iload z98_87 rfl ?_
        refine R_if z98_88 (tn := 94) rfl (fun (h88 : ¬ (b : Int32) = 0) => ?_) (fun (h88 : ¬ (¬ (b : Int32) = 0)) => ?_)
        · refine R_iinc z98_94 (v := (-1)) (loc' := [some (.ref 25), some (.int (nI c)), some (.int i), some (.int (b + (-1))), some (.int (nI k))]) rfl rfl (by decide) (rfl) ?_
          refine R_iinc z98_97 (v := 1) (loc' := [some (.ref 25), some (.int (nI c)), some (.int i), some (.int (b + (-1))), some (.int (nI (k + 1)))]) rfl rfl (by decide) (by rw [nI_1]; rfl) ?_
          refine R_goto z98_100 (tn := 38) rfl ?_
          rw [mTom, if_pos ⟨g, by rw [ex, ncl (by omega)]; exact Classical.not_not.mp h84⟩, if_neg h88] at hQ
          exact ih (k + 1) _ (by omega) hQ
        · refine R_iload z98_91 rfl ?_
          exact R_iret z98_93 (Or.inl (by decide +kernel)) ⟨Nat.zero_le _, Nat.zero_le _⟩ (by rw [mTom, if_pos ⟨g, by rw [ex, ncl (by omega)]; exact Classical.not_not.mp h84⟩, if_pos (Classical.not_not.mp h88)] at hQ; exact hQ)
    · refine R_if z98_56 (tn := 97) rfl (fun _ => ?_) (fun q => absurd (show (0 : Int32) = 0 by decide) q)
      refine R_iinc z98_97 (v := 1) (loc' := [some (.ref 25), some (.int (nI c)), some (.int i), some (.int b), some (.int (nI (k + 1)))]) rfl rfl (by decide) (by rw [nI_1]; rfl) ?_
      refine R_goto z98_100 (tn := 38) rfl ?_
      rw [mTom, if_neg (fun z => g z.1)] at hQ
      exact ih (k + 1) _ (by omega) hQ
theorem s98x {l : Launch} {E : jEnv} {A : Nat → Nat → Int32} {V : Nat → Int32} {O : Nat → Int64} {Q : jO → List jC → Prop} {c i : Int32} { n r : Nat} (hW : mWf A V n r) (hbad : (c < 0 ∨ ¬ c < nI n)) (hQ : Q (.inl (some (.int 0))) (hp A (va_up V 6 1) O)) : GO l E 98 0 [some (.ref 25), some (.int c), some (.int i), none, none] [] (hp A V O) 0 0 Q := by
  refine R_aload z98_0 rfl ?_
  refine R_aload z98_1 rfl ?_
  refine R_iload z98_2 rfl ?_
  refine R_cv z98_3 (k := 65) (by decide +kernel) rfl rfl (by decide +kernel) (Nat.le_of_ble_eq_true (by rfl)) rfl ⟨rfl, trivial⟩ ?_
  refine s65 hW.1 hW.2.1 (fun c2 e2 l2 => absurd hbad (ncb e2 l2 hW.2.1)) (fun _ => jBk_ret rfl ⟨rfl, rfl⟩ ?_)
  refine R_if z98_6 (tn := 13) rfl (fun q => absurd (show ¬ (0 : Int32) = 0 from q) (by decide)) (fun _ => ?_)
  refine R_iconst z98_9 (v := 1) (by decide) ?_
  refine R_goto z98_10 (tn := 14) rfl ?_
  refine R_iload z98_14 rfl ?_
  refine R_if z98_15 (tn := 22) rfl (fun (h15 : (0 : Int32) ≤ i) => ?_) (fun (h15 : ¬ (0 : Int32) ≤ i) => ?_)
  · refine R_iconst z98_22 (v := 0) (by decide) ?_
    refine R_iconst z98_23 (v := 0) (by decide) ?_
    refine R_iconst z98_24 (v := 0) (by decide) ?_
    refine R_cv z98_25 (k := 63) (by decide +kernel) rfl rfl (by decide +kernel) (Nat.le_of_ble_eq_true (by rfl)) rfl ⟨rfl, trivial⟩ ?_
    refine s63 (fun q => absurd q (by decide)) (fun _ => jBk_ret rfl ⟨rfl, rfl⟩ ?_)
    refine R_if z98_28 (tn := 33) rfl (fun q => absurd (show (1 : Int32) = 0 from q) (by decide)) (fun _ => ?_)
    refine R_iconst z98_31 (v := 0) (by decide) ?_
    exact R_iret z98_32 (Or.inl (by decide +kernel)) ⟨Nat.zero_le _, Nat.zero_le _⟩ (hQ)
  · refine R_iconst z98_18 (v := 1) (by decide) ?_
    refine R_goto z98_19 (tn := 23) rfl ?_
    refine R_iconst z98_23 (v := 0) (by decide) ?_
    refine R_iconst z98_24 (v := 0) (by decide) ?_
    refine R_cv z98_25 (k := 63) (by decide +kernel) rfl rfl (by decide +kernel) (Nat.le_of_ble_eq_true (by rfl)) rfl ⟨rfl, trivial⟩ ?_
    refine s63 (fun q => absurd q (by decide)) (fun _ => jBk_ret rfl ⟨rfl, rfl⟩ ?_)
    refine R_if z98_28 (tn := 33) rfl (fun q => absurd (show (1 : Int32) = 0 from q) (by decide)) (fun _ => ?_)
    refine R_iconst z98_31 (v := 0) (by decide) ?_
    exact R_iret z98_32 (Or.inl (by decide +kernel)) ⟨Nat.zero_le _, Nat.zero_le _⟩ (hQ)
theorem mTom_6 {A : Nat → Nat → Int32} {V : Nat → Int32} {x : Int32} (r c : Nat) : ∀ d k b, mTom A (va_up V 6 x) r c d k b = mTom A V r c d k b
  | 0, _, _ => rfl
  | d + 1, k, b => by rw [mTom, mTom, mTom_6 r c d, mTom_6 r c d]; rfl
theorem s98 {l : Launch} {E : jEnv} {A : Nat → Nat → Int32} {V : Nat → Int32} {O : Nat → Int64} {Q : jO → List jC → Prop} {i : Int32} {c n r : Nat} (hW : mWf A V n r) (hcn : c < n) (hc : c < 16) (hI : i < 0 → Q (.inl (some (.int 0))) (hp A (va_up V 6 2) O)) (hQ : ¬ i < 0 → Q (.inl (some (.int (mTom A V r c 20 0 i)))) (hp A (va_up V 6 0) O)) : GO l E 98 0 [some (.ref 25), some (.int (nI c)), some (.int i), none, none] [] (hp A V O) 0 0 Q := by
  refine R_aload z98_0 rfl ?_
  refine R_aload z98_1 rfl ?_
  refine R_iload z98_2 rfl ?_
  refine R_cv z98_3 (k := 65) (by decide +kernel) rfl rfl (by decide +kernel) (Nat.le_of_ble_eq_true (by rfl)) rfl ⟨rfl, trivial⟩ ?_
  refine s65 hW.1 hW.2.1 (fun _ _ _ => jBk_ret rfl ⟨rfl, rfl⟩ ?_) (fun g => absurd g (ncb rfl hcn hW.2.1))
  refine R_if z98_6 (tn := 13) rfl (fun _ => ?_) (fun q => absurd (show ¬ (1 : Int32) = 0 by decide) q)
  refine R_iconst z98_13 (v := 0) (by decide) ?_
  refine R_iload z98_14 rfl ?_
  refine R_if z98_15 (tn := 22) rfl (fun (h15 : (0 : Int32) ≤ i) => ?_) (fun (h15 : ¬ (0 : Int32) ≤ i) => ?_)
  · refine R_iconst z98_22 (v := 0) (by decide) ?_
    refine R_iconst z98_23 (v := 0) (by decide) ?_
    refine R_iconst z98_24 (v := 0) (by decide) ?_
    refine R_cv z98_25 (k := 63) (by decide +kernel) rfl rfl (by decide +kernel) (Nat.le_of_ble_eq_true (by rfl)) rfl ⟨rfl, trivial⟩ ?_
    refine s63 (fun _ => jBk_ret rfl ⟨rfl, rfl⟩ ?_) (fun q => absurd rfl q)
    refine R_if z98_28 (tn := 33) rfl (fun _ => ?_) (fun q => absurd (show (0 : Int32) = 0 by decide) q)
    refine R_iload z98_33 rfl ?_
    refine R_istore z98_34 (loc' := [some (.ref 25), some (.int (nI c)), some (.int i), some (.int i), none]) rfl rfl ?_
    refine R_iconst z98_35 (v := 0) (by decide) ?_
    refine R_istore z98_36 (loc' := [some (.ref 25), some (.int (nI c)), some (.int i), some (.int i), some (.int 0)]) rfl rfl ?_
    refine s98_lp (show mWf A (va_up V 6 0) n r from hW) hc 20 0 i (by omega) ?_
    rw [mTom_6]
    exact hQ (Int32.not_lt.mpr h15)
  · refine R_iconst z98_18 (v := 1) (by decide) ?_
    refine R_goto z98_19 (tn := 23) rfl ?_
    refine R_iconst z98_23 (v := 0) (by decide) ?_
    refine R_iconst z98_24 (v := 0) (by decide) ?_
    refine R_cv z98_25 (k := 63) (by decide +kernel) rfl rfl (by decide +kernel) (Nat.le_of_ble_eq_true (by rfl)) rfl ⟨rfl, trivial⟩ ?_
    refine s63 (fun q => absurd q (by decide)) (fun _ => jBk_ret rfl ⟨rfl, rfl⟩ ?_)
    refine R_if z98_28 (tn := 33) rfl (fun q => absurd (show (1 : Int32) = 0 from q) (by decide)) (fun _ => ?_)
    refine R_iconst z98_31 (v := 0) (by decide) ?_
    exact R_iret z98_32 (Or.inl (by decide +kernel)) ⟨Nat.zero_le _, Nat.zero_le _⟩ (hI (Int32.not_le.mp h15))
def mPs (A : Nat → Nat → Int32) : Nat → Nat
  | 0 => 0
  | k + 1 => mPs A k + (if A 35 k = 0 then 0 else 1)
noncomputable def mPc (A : Nat → Nat → Int32) (V : Nat → Int32) (r c : Nat) : Nat → Nat
  | 0 => 0
  | k + 1 => mPc A V r c k + @ite _ (mCounts A V r k c) (Classical.propDecidable _) 1 0
noncomputable def mPairs (A : Nat → Nat → Int32) (V : Nat → Int32) (r : Nat) : Nat → Nat
  | 0 => 0
  | k + 1 => mPairs A V r k + mPc A V r k 20
theorem s99a_lp {l : Launch} {E : jEnv} {A : Nat → Nat → Int32} {V : Nat → Int32} {O : Nat → Int64} {Q : jO → List jC → Prop} {w : Int32} {n r : Nat} (hW : mWf A V n r) (hK : GO l E 99 61 [some (.ref 25), some (.int w), some (.int (nI (mPs A r))), some (.int (nI r)), none, none] [] (hp A V O) 0 0 Q) : ∀ (d k : Nat), k + d = r →  GO l E 99 30 [some (.ref 25), some (.int w), some (.int (nI (mPs A k))), some (.int (nI k)), none, none] [] (hp A V O) 0 0 Q := by
  intro d
  induction d with
  | zero =>
    intro k hk 
    have hn16 := hW.2.1
    have hr300 := hW.2.2.2.1
    refine R_iload z99_30 rfl ?_
    refine R_aload z99_31 rfl ?_
    refine R_get z99_32 (k := 4) (f := 10) (by decide +kernel) rfl rfl ?_
    refine R_icmp z99_35 (tn := 61) rfl (fun (h35 : ((V 10) : Int32) ≤ (nI k)) => ?_) (fun q => absurd ((show V 10 ≤ nI k by rw [hW.2.2.1, nge (by omega) (by omega)]; omega)) q)
    rw [show k = r by omega]; exact hK
  | succ d ih =>
    intro k hk 
    have hn16 := hW.2.1
    have hr300 := hW.2.2.2.1
    refine R_iload z99_30 rfl ?_
    refine R_aload z99_31 rfl ?_
    refine R_get z99_32 (k := 4) (f := 10) (by decide +kernel) rfl rfl ?_
    refine R_icmp z99_35 (tn := 61) rfl (fun q => absurd q ((show ¬ V 10 ≤ nI k by rw [hW.2.2.1, nge (by omega) (by omega)]; omega))) (fun (h35 : ¬ ((V 10) : Int32) ≤ (nI k)) => ?_)
    refine R_iload z99_38 rfl ?_
    refine R_aload z99_39 rfl ?_
    refine R_get z99_40 (k := 4) (f := 14) (by decide +kernel) rfl rfl ?_
    refine R_iload z99_43 rfl ?_
    refine R_zld z99_44 (n := 300) (f := A 35) (v := (A 35 k)) rfl (nin (by omega) (by decide)) (by rw [ncl (by omega)]) ?_
    refine R_if z99_45 (tn := 52) rfl (fun (h45 : ((A 35 k) : Int32) = 0) => ?_) (fun (h45 : ¬ ((A 35 k) : Int32) = 0) => ?_)
    · refine R_iconst z99_52 (v := 0) (by decide) ?_
      refine R_iadd z99_53 ?_
      refine R_top (y := nI (mPs A (k + 1))) (by rw [mPs, if_pos h45]; exact Int32.add_zero _) ?_
      refine R_istore z99_54 (loc' := [some (.ref 25), some (.int w), some (.int (nI (mPs A (k + 1)))), some (.int (nI k)), none, none]) rfl rfl ?_
      refine R_iinc z99_55 (v := 1) (loc' := [some (.ref 25), some (.int w), some (.int (nI (mPs A (k + 1)))), some (.int (nI (k + 1))), none, none]) rfl rfl (by decide) (by rw [nI_1]; rfl) ?_
      refine R_goto z99_58 (tn := 30) rfl ?_
      exact ih (k + 1) (by omega)
    · refine R_iconst z99_48 (v := 1) (by decide) ?_
      refine R_goto z99_49 (tn := 53) rfl ?_
      refine R_iadd z99_53 ?_
      refine R_top (y := nI (mPs A (k + 1))) (by rw [mPs, if_neg h45]; exact nI_1 _) ?_
      refine R_istore z99_54 (loc' := [some (.ref 25), some (.int w), some (.int (nI (mPs A (k + 1)))), some (.int (nI k)), none, none]) rfl rfl ?_
      refine R_iinc z99_55 (v := 1) (loc' := [some (.ref 25), some (.int w), some (.int (nI (mPs A (k + 1)))), some (.int (nI (k + 1))), none, none]) rfl rfl (by decide) (by rw [nI_1]; rfl) ?_
      refine R_goto z99_58 (tn := 30) rfl ?_
      exact ih (k + 1) (by omega)
theorem s99c_lp {l : Launch} {E : jEnv} {A : Nat → Nat → Int32} {V : Nat → Int32} {O : Nat → Int64} {Q : jO → List jC → Prop} {w y : Int32} {n r c m : Nat} (hW : mWf A V n r) (hcn : c < n) (hK : GO l E 99 110 [some (.ref 25), some (.int w), some (.int y), some (.int (nI (m + mPc A V r c 20))), some (.int (nI c)), some (.int (nI 20))] [] (hp A V O) 0 0 Q) : ∀ (d k : Nat), k + d = 20 →  GO l E 99 78 [some (.ref 25), some (.int w), some (.int y), some (.int (nI (m + mPc A V r c k))), some (.int (nI c)), some (.int (nI k))] [] (hp A V O) 0 0 Q := by
  intro d
  induction d with
  | zero =>
    intro k hk 
    have hn16 := hW.2.1
    have hr300 := hW.2.2.2.1
    refine R_iload z99_78 rfl ?_
    refine R_bipush z99_80 (v := 20) (by decide) ?_
    refine R_icmp z99_82 (tn := 110) rfl (fun (h82 : (20 : Int32) ≤ (nI k)) => ?_) (fun q => absurd ((show (20 : Int32) ≤ nI k by rw [n20, nge (by omega) (by omega)]; omega)) q)
    rw [show k = 20 by omega]; exact hK
  | succ d ih =>
    intro k hk 
    have hn16 := hW.2.1
    have hr300 := hW.2.2.2.1
    refine R_iload z99_78 rfl ?_
    refine R_bipush z99_80 (v := 20) (by decide) ?_
    refine R_icmp z99_82 (tn := 110) rfl (fun q => absurd q ((show ¬ (20 : Int32) ≤ nI k by rw [n20, nge (by omega) (by omega)]; omega))) (fun (h82 : ¬ (20 : Int32) ≤ (nI k)) => ?_)
    refine R_iload z99_85 rfl ?_
    refine R_aload z99_86 rfl ?_
    refine R_iload z99_87 rfl ?_
    refine R_iload z99_89 rfl ?_
    refine R_cv z99_91 (k := 79) (by decide +kernel) rfl rfl (by decide +kernel) (Nat.le_of_ble_eq_true (by rfl)) rfl ⟨rfl, trivial⟩ ?_
    refine s79 hW (by omega) (by omega) (fun g => jBk_ret rfl ⟨rfl, rfl⟩ ?_) (fun g => jBk_ret rfl ⟨rfl, rfl⟩ ?_)
    · refine R_if z99_94 (tn := 101) rfl (fun q => absurd (show (1 : Int32) = 0 from q) (by decide)) (fun _ => ?_)
      refine R_iconst z99_97 (v := 1) (by decide) ?_
      refine R_goto z99_98 (tn := 102) rfl ?_
      refine R_iadd z99_102 ?_
      refine R_top (y := nI (m + mPc A V r c (k + 1))) (by rw [mPc, if_pos g]; exact nI_1 _) ?_
      refine R_istore z99_103 (loc' := [some (.ref 25), some (.int w), some (.int y), some (.int (nI (m + mPc A V r c (k + 1)))), some (.int (nI c)), some (.int (nI k))]) rfl rfl ?_
      refine R_iinc z99_104 (v := 1) (loc' := [some (.ref 25), some (.int w), some (.int y), some (.int (nI (m + mPc A V r c (k + 1)))), some (.int (nI c)), some (.int (nI (k + 1)))]) rfl rfl (by decide) (by rw [nI_1]; rfl) ?_
      refine R_goto z99_107 (tn := 78) rfl ?_
      exact ih (k + 1) (by omega)
    · refine R_if z99_94 (tn := 101) rfl (fun _ => ?_) (fun q => absurd (show (0 : Int32) = 0 by decide) q)
      refine R_iconst z99_101 (v := 0) (by decide) ?_
      refine R_iadd z99_102 ?_
      refine R_top (y := nI (m + mPc A V r c (k + 1))) (by rw [mPc, if_neg g]; exact Int32.add_zero _) ?_
      refine R_istore z99_103 (loc' := [some (.ref 25), some (.int w), some (.int y), some (.int (nI (m + mPc A V r c (k + 1)))), some (.int (nI c)), some (.int (nI k))]) rfl rfl ?_
      refine R_iinc z99_104 (v := 1) (loc' := [some (.ref 25), some (.int w), some (.int y), some (.int (nI (m + mPc A V r c (k + 1)))), some (.int (nI c)), some (.int (nI (k + 1)))]) rfl rfl (by decide) (by rw [nI_1]; rfl) ?_
      refine R_goto z99_107 (tn := 78) rfl ?_
      exact ih (k + 1) (by omega)
theorem s99b_lp {l : Launch} {E : jEnv} {A : Nat → Nat → Int32} {V : Nat → Int32} {O : Nat → Int64} {Q : jO → List jC → Prop} {w y : Int32} {n r : Nat} (hW : mWf A V n r) (hK : GO l E 99 116 [some (.ref 25), some (.int w), some (.int y), some (.int (nI (mPairs A V r n))), some (.int (nI n)), none] [] (hp A V O) 0 0 Q) : ∀ (d k : Nat), k + d = n →  GO l E 99 66 [some (.ref 25), some (.int w), some (.int y), some (.int (nI (mPairs A V r k))), some (.int (nI k)), none] [] (hp A V O) 0 0 Q := by
  intro d
  induction d with
  | zero =>
    intro k hk 
    have hn16 := hW.2.1
    have hr300 := hW.2.2.2.1
    refine R_iload z99_66 rfl ?_
    refine R_aload z99_68 rfl ?_
    refine R_get z99_69 (k := 4) (f := 3) (by decide +kernel) rfl rfl ?_
    refine R_icmp z99_72 (tn := 116) rfl (fun (h72 : ((V 9) : Int32) ≤ (nI k)) => ?_) (fun q => absurd ((show V 9 ≤ nI k by rw [hW.1, nge (by omega) (by omega)]; omega)) q)
    rw [show k = n by omega]; exact hK
  | succ d ih =>
    intro k hk 
    have hn16 := hW.2.1
    have hr300 := hW.2.2.2.1
    refine R_iload z99_66 rfl ?_
    refine R_aload z99_68 rfl ?_
    refine R_get z99_69 (k := 4) (f := 3) (by decide +kernel) rfl rfl ?_
    refine R_icmp z99_72 (tn := 116) rfl (fun q => absurd q ((show ¬ V 9 ≤ nI k by rw [hW.1, nge (by omega) (by omega)]; omega))) (fun (h72 : ¬ ((V 9) : Int32) ≤ (nI k)) => ?_)
    refine R_iconst z99_75 (v := 0) (by decide) ?_
    refine R_istore z99_76 (loc' := [some (.ref 25), some (.int w), some (.int y), some (.int (nI (mPairs A V r k))), some (.int (nI k)), some (.int 0)]) rfl rfl ?_
    refine s99c_lp (m := mPairs A V r k) hW (by omega) ?_ 20 0 (by omega)
    refine R_iinc z99_110 (v := 1) (loc' := [some (.ref 25), some (.int w), some (.int y), some (.int (nI (mPairs A V r (k + 1)))), some (.int (nI (k + 1))), some (.int (nI 20))]) rfl rfl (by decide) (by rw [nI_1]; rfl) ?_
    refine R_goto z99_113 (tn := 66) rfl ?_
    exact GO_drop 5 (ih (k + 1) (by omega))
theorem mPc_6 {A : Nat → Nat → Int32} {V : Nat → Int32} {x : Int32} (r c : Nat) : ∀ k, mPc A (va_up V 6 x) r c k = mPc A V r c k
  | 0 => rfl
  | k + 1 => by rw [mPc, mPc, mPc_6 r c k]; rfl
theorem mPairs_6 {A : Nat → Nat → Int32} {V : Nat → Int32} {x : Int32} (r : Nat) : ∀ k, mPairs A (va_up V 6 x) r k = mPairs A V r k
  | 0 => rfl
  | k + 1 => by rw [mPairs, mPairs, mPairs_6 r k, mPc_6]
theorem w99 {w : Int32} (h : jrg w 0 3) (h0 : ¬ w = 0) (h1 : ¬ w = 1) (h2 : ¬ w = 2) : w = 3 := by
  have e0 : (0 : Int32).toInt = 0 := by decide
  have e1 : (1 : Int32).toInt = 1 := by decide
  have e2 : (2 : Int32).toInt = 2 := by decide
  have e3 : (3 : Int32).toInt = 3 := by decide
  have a := Int32.le_iff_toInt_le.mp (Int32.not_lt.mp h.1)
  have b := Int32.le_iff_toInt_le.mp h.2
  refine Int32.toInt_inj.mp ?_
  have n0 : ¬ w.toInt = 0 := fun z => h0 (Int32.toInt_inj.mp (by rw [z, e0]))
  have n1 : ¬ w.toInt = 1 := fun z => h1 (Int32.toInt_inj.mp (by rw [z, e1]))
  have n2 : ¬ w.toInt = 2 := fun z => h2 (Int32.toInt_inj.mp (by rw [z, e2]))
  omega
theorem s99d {l : Launch} {E : jEnv} {A : Nat → Nat → Int32} {V : Nat → Int32} {O : Nat → Int64} {Q : jO → List jC → Prop} {w : Int32} {x y n : Nat} (hw : jrg w 0 3) (h0 : w = 0 → Q (.inl (some (.int (V 9)))) (hp A V O)) (h1 : w = 1 → Q (.inl (some (.int (V 10)))) (hp A V O)) (h2 : w = 2 → Q (.inl (some (.int (nI x)))) (hp A V O)) (h3 : w = 3 → Q (.inl (some (.int (nI y)))) (hp A V O)) : GO l E 99 116 [some (.ref 25), some (.int w), some (.int (nI x)), some (.int (nI y)), some (.int (nI n)), none] [] (hp A V O) 0 0 Q := by
  refine R_iload z99_116 rfl ?_
  refine R_if z99_117 (tn := 127) rfl (fun (h117 : ¬ (w : Int32) = 0) => ?_) (fun (h117 : ¬ (¬ (w : Int32) = 0)) => ?_)
  · refine R_iload z99_127 rfl ?_
    refine R_iconst z99_128 (v := 1) (by decide) ?_
    refine R_icmp z99_129 (tn := 139) rfl (fun (h129 : ¬ (w : Int32) = 1) => ?_) (fun (h129 : ¬ (¬ (w : Int32) = 1)) => ?_)
    · refine R_iload z99_139 rfl ?_
      refine R_iconst z99_140 (v := 2) (by decide) ?_
      refine R_icmp z99_141 (tn := 148) rfl (fun (h141 : ¬ (w : Int32) = 2) => ?_) (fun (h141 : ¬ (¬ (w : Int32) = 2)) => ?_)
      · refine R_iload z99_148 rfl ?_
        exact R_iret z99_149 (Or.inl (by decide +kernel)) ⟨Nat.zero_le _, Nat.zero_le _⟩ (h3 (w99 hw h117 h129 h141))
      · refine R_iload z99_144 rfl ?_
        refine R_goto z99_145 (tn := 149) rfl ?_
        exact R_iret z99_149 (Or.inl (by decide +kernel)) ⟨Nat.zero_le _, Nat.zero_le _⟩ (h2 (Classical.not_not.mp h141))
    · refine R_aload z99_132 rfl ?_
      refine R_get z99_133 (k := 4) (f := 10) (by decide +kernel) rfl rfl ?_
      refine R_goto z99_136 (tn := 149) rfl ?_
      exact R_iret z99_149 (Or.inl (by decide +kernel)) ⟨Nat.zero_le _, Nat.zero_le _⟩ (h1 (Classical.not_not.mp h129))
  · refine R_aload z99_120 rfl ?_
    refine R_get z99_121 (k := 4) (f := 3) (by decide +kernel) rfl rfl ?_
    refine R_goto z99_124 (tn := 149) rfl ?_
    exact R_iret z99_149 (Or.inl (by decide +kernel)) ⟨Nat.zero_le _, Nat.zero_le _⟩ (h0 (Classical.not_not.mp h117))
theorem s99 {l : Launch} {E : jEnv} {A : Nat → Nat → Int32} {V : Nat → Int32} {O : Nat → Int64} {Q : jO → List jC → Prop} {w : Int32} { n r : Nat} (hW : mWf A V n r) (hbad : ¬ jrg w 0 3 → Q (.inl (some (.int 0))) (hp A (va_up V 6 1) O)) (h0 : w = 0 → Q (.inl (some (.int (V 9)))) (hp A (va_up V 6 0) O)) (h1 : w = 1 → Q (.inl (some (.int (V 10)))) (hp A (va_up V 6 0) O)) (h2 : w = 2 → Q (.inl (some (.int (nI (mPs A r))))) (hp A (va_up V 6 0) O)) (h3 : w = 3 → Q (.inl (some (.int (nI (mPairs A V r n))))) (hp A (va_up V 6 0) O)) : GO l E 99 0 [some (.ref 25), some (.int w), none, none, none, none] [] (hp A V O) 0 0 Q := by
  refine R_aload z99_0 rfl ?_
  refine R_iload z99_1 rfl ?_
  refine R_iconst z99_2 (v := 0) (by decide) ?_
  refine R_iconst z99_3 (v := 3) (by decide) ?_
  refine R_cs z99_4 (k := 64) (kind := 1) (by decide +kernel) (by decide) rfl rfl (by decide +kernel) (Nat.le_of_ble_eq_true (by rfl)) rfl ?_
  refine s64 (fun g => jBk_ret rfl ⟨rfl, rfl⟩ ?_) (fun g => jBk_ret rfl ⟨rfl, rfl⟩ ?_)
  · refine R_if z99_7 (tn := 14) rfl (fun _ => ?_) (fun q => absurd (show ¬ (1 : Int32) = 0 by decide) q)
    refine R_iconst z99_14 (v := 0) (by decide) ?_
    refine R_iconst z99_15 (v := 0) (by decide) ?_
    refine R_iconst z99_16 (v := 0) (by decide) ?_
    refine R_iconst z99_17 (v := 0) (by decide) ?_
    refine R_cv z99_18 (k := 63) (by decide +kernel) rfl rfl (by decide +kernel) (Nat.le_of_ble_eq_true (by rfl)) rfl ⟨rfl, trivial⟩ ?_
    refine s63 (fun _ => jBk_ret rfl ⟨rfl, rfl⟩ ?_) (fun q => absurd rfl q)
    refine R_if z99_21 (tn := 26) rfl (fun _ => ?_) (fun q => absurd (show (0 : Int32) = 0 by decide) q)
    refine R_iconst z99_26 (v := 0) (by decide) ?_
    refine R_istore z99_27 (loc' := [some (.ref 25), some (.int w), some (.int 0), none, none, none]) rfl rfl ?_
    refine R_iconst z99_28 (v := 0) (by decide) ?_
    refine R_istore z99_29 (loc' := [some (.ref 25), some (.int w), some (.int 0), some (.int 0), none, none]) rfl rfl ?_
    refine s99a_lp (show mWf A (va_up V 6 0) n r from hW) ?_ r 0 (by omega)
    refine R_iconst z99_61 (v := 0) (by decide) ?_
    refine R_istore z99_62 (loc' := [some (.ref 25), some (.int w), some (.int (nI (mPs A r))), some (.int 0), none, none]) rfl rfl ?_
    refine R_iconst z99_63 (v := 0) (by decide) ?_
    refine R_istore z99_64 (loc' := [some (.ref 25), some (.int w), some (.int (nI (mPs A r))), some (.int 0), some (.int 0), none]) rfl rfl ?_
    refine s99b_lp (show mWf A (va_up V 6 0) n r from hW) ?_ n 0 (by omega)
    rw [mPairs_6]
    exact s99d g h0 h1 h2 h3
  · refine R_if z99_7 (tn := 14) rfl (fun q => absurd (show ¬ (0 : Int32) = 0 from q) (by decide)) (fun _ => ?_)
    refine R_iconst z99_10 (v := 1) (by decide) ?_
    refine R_goto z99_11 (tn := 15) rfl ?_
    refine R_iconst z99_15 (v := 0) (by decide) ?_
    refine R_iconst z99_16 (v := 0) (by decide) ?_
    refine R_iconst z99_17 (v := 0) (by decide) ?_
    refine R_cv z99_18 (k := 63) (by decide +kernel) rfl rfl (by decide +kernel) (Nat.le_of_ble_eq_true (by rfl)) rfl ⟨rfl, trivial⟩ ?_
    refine s63 (fun q => absurd q (by decide)) (fun _ => jBk_ret rfl ⟨rfl, rfl⟩ ?_)
    refine R_if z99_21 (tn := 26) rfl (fun q => absurd (show (1 : Int32) = 0 from q) (by decide)) (fun _ => ?_)
    refine R_iconst z99_24 (v := 0) (by decide) ?_
    exact R_iret z99_25 (Or.inl (by decide +kernel)) ⟨Nat.zero_le _, Nat.zero_le _⟩ (hbad g)

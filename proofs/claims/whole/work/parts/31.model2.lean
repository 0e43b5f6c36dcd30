theorem mpair (a p c : Nat) (x : Int32) (hx : x = nI a) : x * nI p + nI c = nI (a * p + c) := by rw [hx, pk_mul, nI_add]
theorem mp16 (p c : Nat) : (16 : Int32) * nI p + nI c = nI (16 * p + c) := mpair 16 p c _ (by decide)
def mCounts (A : Nat → Nat → Int32) (V : Nat → Int32) (r p c : Nat) : Prop := ¬ A 31 (16 * p + c) = 0 ∧ mHeld A r (nI p) (nI c) (V 7)
theorem s79 {l : Launch} {E : jEnv} {A : Nat → Nat → Int32} {V : Nat → Int32} {O : Nat → Int64} {Q : jO → List jC → Prop} {p c n r : Nat} (hW : mWf A V n r) (hp2 : p < 20) (hc : c < 16) (h1 : mCounts A V r p c → Q (.inl (some (.int 1))) (hp A V O)) (h0 : ¬ mCounts A V r p c → Q (.inl (some (.int 0))) (hp A V O)) : GO l E 79 0 [some (.ref 25), some (.int (nI p)), some (.int (nI c))] [] (hp A V O) 0 0 Q := by
  refine R_aload z79_0 rfl ?_
  refine R_get z79_1 (k := 4) (f := 9) (by decide +kernel) rfl rfl ?_
  refine R_bipush z79_4 (v := 16) (by decide) ?_
  refine R_iload z79_6 rfl ?_
  refine R_imul z79_7 ?_
  refine R_iload z79_8 rfl ?_
  refine R_iadd z79_9 ?_
  refine R_top (y := nI (16 * p + c)) (mp16 p c) ?_
  refine R_zld z79_10 (n := 320) (f := A 31) (v := (A 31 (16 * p + c))) rfl (nin (by omega) (by decide)) (by rw [ncl (by omega)]) ?_
  refine R_if z79_11 (tn := 31) rfl (fun (h11 : ((A 31 (16 * p + c)) : Int32) = 0) => ?_) (fun (h11 : ¬ ((A 31 (16 * p + c)) : Int32) = 0) => ?_)
  · refine R_iconst z79_31 (v := 0) (by decide) ?_
    exact R_iret z79_32 (Or.inr (by decide)) ⟨Nat.zero_le _, Nat.zero_le _⟩ (h0 (fun z => z.1 h11))
  · refine R_aload z79_14 rfl ?_
    refine R_iload z79_15 rfl ?_
    refine R_iload z79_16 rfl ?_
    refine R_aload z79_17 rfl ?_
    refine R_get z79_18 (k := 4) (f := 1) (by decide +kernel) rfl rfl ?_
    refine R_cv z79_21 (k := 75) (by decide +kernel) rfl rfl (by decide +kernel) (Nat.le_of_ble_eq_true (by rfl)) rfl ⟨rfl, trivial⟩ ?_
    refine s75 hW (fun g => jBk_ret rfl ⟨rfl, rfl⟩ ?_) (fun g => jBk_ret rfl ⟨rfl, rfl⟩ ?_)
    · refine R_if z79_24 (tn := 31) rfl (fun q => absurd (show (1 : Int32) = 0 from q) (by decide)) (fun _ => ?_)
      refine R_iconst z79_27 (v := 1) (by decide) ?_
      refine R_goto z79_28 (tn := 32) rfl ?_
      exact R_iret z79_32 (Or.inr (by decide)) ⟨Nat.zero_le _, Nat.zero_le _⟩ (h1 ⟨h11, g⟩)
    · refine R_if z79_24 (tn := 31) rfl (fun _ => ?_) (fun q => absurd (show (0 : Int32) = 0 by decide) q)
      refine R_iconst z79_31 (v := 0) (by decide) ?_
      exact R_iret z79_32 (Or.inr (by decide)) ⟨Nat.zero_le _, Nat.zero_le _⟩ (h0 (fun z => g z.2))
def mMiss (A : Nat → Nat → Int32) (V : Nat → Int32) (r p c o : Nat) : Prop := ¬ A 30 (16 * c + o) = 0 ∧ ¬ mHeld A r (nI p) (nI o) (V 7)
noncomputable def mWhy (A : Nat → Nat → Int32) (V : Nat → Int32) (n r p c : Nat) : Nat := @ite _ (∃ o, o < n ∧ mMiss A V r p c o) (Classical.propDecidable _) 1 (if ¬ A 31 (16 * p + c) = 0 then 2 else if ¬ nI (mFails A (nI p) (nI c) r) < 3 ∧ ¬ V 8 ≤ V 7 - A 34 (mLate A (nI p) (nI c) r).toNatClampNeg then 3 else 0)
theorem mLate_pass (A : Nat → Nat → Int32) (p c : Int32) : ∀ k, jpass (mLate A p c k) k
  | 0 => Or.inl rfl
  | k + 1 => by
    unfold mLate
    split
    · exact Or.inr ⟨k, by omega, rfl⟩
    · rcases mLate_pass A p c k with e | ⟨j, hj, e⟩
      · exact Or.inl e
      · exact Or.inr ⟨j, by omega, e⟩
theorem mLate_fails (A : Nat → Nat → Int32) (p c : Int32) : ∀ k, k ≤ 300 → mLate A p c k = -1 → mFails A p c k = 0
  | 0, _, _ => rfl
  | k + 1, hk, h => by
    unfold mLate at h
    unfold mFails
    by_cases g : A 32 k = p ∧ A 33 k = c
    · rw [if_pos g] at h
      exact absurd h (nm1 (by omega))
    · rw [if_neg g] at h
      rw [if_neg g]
      exact mLate_fails A p c k (by omega) h
theorem s78_b {l : Launch} {E : jEnv} {A : Nat → Nat → Int32} {V : Nat → Int32} {O : Nat → Int64} {Q : jO → List jC → Prop} {p c n r : Nat} {y : Option Value} (hW : mWf A V n r) (hp2 : p < 20) (hc : c < 16) (e0 : mWhy A V n r p c = (if ¬ A 31 (16 * p + c) = 0 then 2 else if ¬ nI (mFails A (nI p) (nI c) r) < 3 ∧ ¬ V 8 ≤ V 7 - A 34 (mLate A (nI p) (nI c) r).toNatClampNeg then 3 else 0)) (hQ : Q (.inl (some (.int (nI (mWhy A V n r p c))))) (hp A V O)) : GO l E 78 45 [some (.ref 25), some (.int (nI p)), some (.int (nI c)), y] [] (hp A V O) 0 0 Q := by
  rw [e0] at hQ
  refine R_aload z78_45 rfl ?_
  refine R_get z78_46 (k := 4) (f := 9) (by decide +kernel) rfl rfl ?_
  refine R_bipush z78_49 (v := 16) (by decide) ?_
  refine R_iload z78_51 rfl ?_
  refine R_imul z78_52 ?_
  refine R_iload z78_53 rfl ?_
  refine R_iadd z78_54 ?_
  refine R_top (y := nI (16 * p + c)) (mp16 p c) ?_
  refine R_zld z78_55 (n := 320) (f := A 31) (v := (A 31 (16 * p + c))) rfl (nin (by omega) (by decide)) (by rw [ncl (by omega)]) ?_
  refine R_if z78_56 (tn := 61) rfl (fun (h56 : ((A 31 (16 * p + c)) : Int32) = 0) => ?_) (fun (h56 : ¬ ((A 31 (16 * p + c)) : Int32) = 0) => ?_)
  · refine R_aload z78_61 rfl ?_
    refine R_iload z78_62 rfl ?_
    refine R_iload z78_63 rfl ?_
    refine R_cv z78_64 (k := 76) (by decide +kernel) rfl rfl (by decide +kernel) (Nat.le_of_ble_eq_true (by rfl)) rfl ⟨rfl, trivial⟩ ?_
    refine s76 hW (jBk_ret rfl ⟨rfl, rfl⟩ ?_)
    refine R_iconst z78_67 (v := 3) (by decide) ?_
    refine R_icmp z78_68 (tn := 98) rfl (fun (h68 : ((nI (mFails A (nI p) (nI c) r)) : Int32) < 3) => ?_) (fun (h68 : ¬ ((nI (mFails A (nI p) (nI c) r)) : Int32) < 3) => ?_)
    · refine R_iconst z78_98 (v := 0) (by decide) ?_
      exact R_iret z78_99 (Or.inl (by decide +kernel)) ⟨Nat.zero_le _, Nat.zero_le _⟩ (by rw [if_neg (fun z => z h56), if_neg (fun z => z.1 h68)] at hQ; exact hQ)
    · refine R_aload z78_71 rfl ?_
      refine R_get z78_72 (k := 4) (f := 1) (by decide +kernel) rfl rfl ?_
      refine R_aload z78_75 rfl ?_
      refine R_get z78_76 (k := 4) (f := 13) (by decide +kernel) rfl rfl ?_
      refine R_aload z78_79 rfl ?_
      refine R_iload z78_80 rfl ?_
      refine R_iload z78_81 rfl ?_
      refine R_cv z78_82 (k := 77) (by decide +kernel) rfl rfl (by decide +kernel) (Nat.le_of_ble_eq_true (by rfl)) rfl ⟨rfl, trivial⟩ ?_
      refine s77 hW (jBk_ret rfl ⟨rfl, rfl⟩ ?_)
      refine R_ild z78_85 (n := 300) (f := A 34) (v := (A 34 ((mLate A (nI p) (nI c) r)).toNatClampNeg)) rfl (jpass_in (mLate_pass A (nI p) (nI c) r) (fun z => by rw [mLate_fails _ _ _ r hW.2.2.2.1 z] at h68; exact h68 (by decide)) hW.2.2.2.1 (by decide)) (rfl) ?_
      refine R_isub z78_86 ?_
      refine R_aload z78_87 rfl ?_
      refine R_get z78_88 (k := 4) (f := 2) (by decide +kernel) rfl rfl ?_
      refine R_icmp z78_91 (tn := 98) rfl (fun (h91 : ((V 8) : Int32) ≤ ((V 7) - (A 34 ((mLate A (nI p) (nI c) r)).toNatClampNeg))) => ?_) (fun (h91 : ¬ ((V 8) : Int32) ≤ ((V 7) - (A 34 ((mLate A (nI p) (nI c) r)).toNatClampNeg))) => ?_)
      · refine R_iconst z78_98 (v := 0) (by decide) ?_
        exact R_iret z78_99 (Or.inl (by decide +kernel)) ⟨Nat.zero_le _, Nat.zero_le _⟩ (by rw [if_neg (fun z => z h56), if_neg (fun z => z.2 h91)] at hQ; exact hQ)
      · refine R_iconst z78_94 (v := 3) (by decide) ?_
        refine R_goto z78_95 (tn := 99) rfl ?_
        exact R_iret z78_99 (Or.inl (by decide +kernel)) ⟨Nat.zero_le _, Nat.zero_le _⟩ (by rw [if_neg (fun z => z h56), if_pos ⟨h68, h91⟩] at hQ; exact hQ)
  · refine R_iconst z78_59 (v := 2) (by decide) ?_
    exact R_iret z78_60 (Or.inl (by decide +kernel)) ⟨Nat.zero_le _, Nat.zero_le _⟩ (by rw [if_pos h56] at hQ; exact hQ)
theorem s78_lp {l : Launch} {E : jEnv} {A : Nat → Nat → Int32} {V : Nat → Int32} {O : Nat → Int64} {Q : jO → List jC → Prop} {p c n r : Nat} (hW : mWf A V n r) (hp2 : p < 20) (hc : c < 16) (hQ : Q (.inl (some (.int (nI (mWhy A V n r p c))))) (hp A V O)) : ∀ (d k : Nat), k + d = n → (∀ o, o < k → ¬ mMiss A V r p c o) → GO l E 78 2 [some (.ref 25), some (.int (nI p)), some (.int (nI c)), some (.int (nI k))] [] (hp A V O) 0 0 Q := by
  intro d
  induction d with
  | zero =>
    intro k hk ha
    have hn16 := hW.2.1
    have hr300 := hW.2.2.2.1
    refine R_iload z78_2 rfl ?_
    refine R_aload z78_3 rfl ?_
    refine R_get z78_4 (k := 4) (f := 3) (by decide +kernel) rfl rfl ?_
    refine R_icmp z78_7 (tn := 45) rfl (fun (h7 : ((V 9) : Int32) ≤ (nI k)) => ?_) (fun q => absurd ((show V 9 ≤ nI k by rw [hW.1, nge (by omega) (by omega)]; omega)) q)
    exact s78_b hW hp2 hc (if_neg (fun ⟨o, a, b⟩ => ha o (by omega) b)) hQ
  | succ d ih =>
    intro k hk ha
    have hn16 := hW.2.1
    have hr300 := hW.2.2.2.1
    refine R_iload z78_2 rfl ?_
    refine R_aload z78_3 rfl ?_
    refine R_get z78_4 (k := 4) (f := 3) (by decide +kernel) rfl rfl ?_
    refine R_icmp z78_7 (tn := 45) rfl (fun q => absurd q ((show ¬ V 9 ≤ nI k by rw [hW.1, nge (by omega) (by omega)]; omega))) (fun (h7 : ¬ ((V 9) : Int32) ≤ (nI k)) => ?_)
    refine R_aload z78_10 rfl ?_
    refine R_get z78_11 (k := 4) (f := 8) (by decide +kernel) rfl rfl ?_
    refine R_bipush z78_14 (v := 16) (by decide) ?_
    refine R_iload z78_16 rfl ?_
    refine R_imul z78_17 ?_
    refine R_iload z78_18 rfl ?_
    refine R_iadd z78_19 ?_
    refine R_top (y := nI (16 * c + k)) (mp16 c k) ?_
    refine R_zld z78_20 (n := 256) (f := A 30) (v := (A 30 (16 * c + k))) rfl (nin (by omega) (by decide)) (by rw [ncl (by omega)]) ?_
    refine R_if z78_21 (tn := 39) rfl (fun (h21 : ((A 30 (16 * c + k)) : Int32) = 0) => ?_) (fun (h21 : ¬ ((A 30 (16 * c + k)) : Int32) = 0) => ?_)
    · refine R_iinc z78_39 (v := 1) (loc' := [some (.ref 25), some (.int (nI p)), some (.int (nI c)), some (.int (nI (k + 1)))]) rfl rfl (by decide) (by rw [nI_1]; rfl) ?_
      refine R_goto z78_42 (tn := 2) rfl ?_
      exact ih (k + 1) (by omega) (fun o ho b => by
        rcases Nat.lt_or_ge o k with q | q
        · exact ha o q b
        · have e : o = k := by omega
          subst e
          exact b.1 h21)
    · refine R_aload z78_24 rfl ?_
      refine R_iload z78_25 rfl ?_
      refine R_iload z78_26 rfl ?_
      refine R_aload z78_27 rfl ?_
      refine R_get z78_28 (k := 4) (f := 1) (by decide +kernel) rfl rfl ?_
      refine R_cv z78_31 (k := 75) (by decide +kernel) rfl rfl (by decide +kernel) (Nat.le_of_ble_eq_true (by rfl)) rfl ⟨rfl, trivial⟩ ?_
      refine s75 hW (fun g => jBk_ret rfl ⟨rfl, rfl⟩ ?_) (fun g => jBk_ret rfl ⟨rfl, rfl⟩ ?_)
      · refine R_if z78_34 (tn := 39) rfl (fun _ => ?_) (fun q => absurd (show ¬ (1 : Int32) = 0 by decide) q)
        refine R_iinc z78_39 (v := 1) (loc' := [some (.ref 25), some (.int (nI p)), some (.int (nI c)), some (.int (nI (k + 1)))]) rfl rfl (by decide) (by rw [nI_1]; rfl) ?_
        refine R_goto z78_42 (tn := 2) rfl ?_
        exact ih (k + 1) (by omega) (fun o ho b => by
          rcases Nat.lt_or_ge o k with q | q
          · exact ha o q b
          · have e : o = k := by omega
            subst e
            exact b.2 g)
      · refine R_if z78_34 (tn := 39) rfl (fun q => absurd (show ¬ (0 : Int32) = 0 from q) (by decide)) (fun _ => ?_)
        refine R_iconst z78_37 (v := 1) (by decide) ?_
        exact R_iret z78_38 (Or.inl (by decide +kernel)) ⟨Nat.zero_le _, Nat.zero_le _⟩ (by have e : mWhy A V n r p c = 1 := if_pos ⟨k, by omega, h21, g⟩; rw [e] at hQ; exact hQ)
theorem s78 {l : Launch} {E : jEnv} {A : Nat → Nat → Int32} {V : Nat → Int32} {O : Nat → Int64} {Q : jO → List jC → Prop} {p c n r : Nat} (hW : mWf A V n r) (hp2 : p < 20) (hc : c < 16) (hQ : Q (.inl (some (.int (nI (mWhy A V n r p c))))) (hp A V O)) : GO l E 78 0 [some (.ref 25), some (.int (nI p)), some (.int (nI c)), none] [] (hp A V O) 0 0 Q := by
  refine R_iconst z78_0 (v := 0) (by decide) ?_
  refine R_istore z78_1 (loc' := [some (.ref 25), some (.int (nI p)), some (.int (nI c)), some (.int 0)]) rfl rfl ?_
  exact s78_lp hW hp2 hc hQ n 0 (by omega) (fun o ho => absurd ho (by omega))
def mAdd (A : Nat → Nat → Int32) (V : Nat → Int32) (r : Nat) (p c b : Int32) : Nat → Nat → Int32 := va_up (va_up (va_up (va_up A 32 (upd (A 32) r p)) 33 (upd (A 33) r c)) 34 (upd (A 34) r (V 7))) 35 (upd (A 35) r (b &&& 1))
theorem s81 {l : Launch} {E : jEnv} {A : Nat → Nat → Int32} {V : Nat → Int32} {O : Nat → Int64} {Q : jO → List jC → Prop} {r : Nat} {p c b : Int32} (hr : V 10 = nI r) (hr3 : r < 300) (hQ : Q (.inl (some (.int (nI r)))) (hp (mAdd A V r p c b) (va_up V 10 (nI (r + 1))) O)) : GO l E 81 0 [some (.ref 25), some (.int p), some (.int c), some (.int b)] [] (hp A V O) 0 0 Q := by
  refine R_aload z81_0 rfl ?_
  refine R_get z81_1 (k := 4) (f := 11) (by decide +kernel) rfl rfl ?_
  refine R_aload z81_4 rfl ?_
  refine R_get z81_5 (k := 4) (f := 10) (by decide +kernel) rfl rfl ?_
  refine R_iload z81_8 rfl ?_
  refine R_ist z81_9 (n := 300) (f := A 32) (h' := hp (va_up A 32 (upd (A 32) r p)) V O) rfl (by rw [hr]; exact nin hr3 (by decide)) (by rw [hr, ncl (by omega)]; rfl) ?_
  refine R_aload z81_10 rfl ?_
  refine R_get z81_11 (k := 4) (f := 12) (by decide +kernel) rfl rfl ?_
  refine R_aload z81_14 rfl ?_
  refine R_get z81_15 (k := 4) (f := 10) (by decide +kernel) rfl rfl ?_
  refine R_iload z81_18 rfl ?_
  refine R_ist z81_19 (n := 300) (f := (va_up A 32 (upd (A 32) r p)) 33) (h' := hp (va_up (va_up A 32 (upd (A 32) r p)) 33 (upd (A 33) r c)) V O) rfl (by rw [hr]; exact nin hr3 (by decide)) (by rw [hr, ncl (by omega)]; rfl) ?_
  refine R_aload z81_20 rfl ?_
  refine R_get z81_21 (k := 4) (f := 13) (by decide +kernel) rfl rfl ?_
  refine R_aload z81_24 rfl ?_
  refine R_get z81_25 (k := 4) (f := 10) (by decide +kernel) rfl rfl ?_
  refine R_aload z81_28 rfl ?_
  refine R_get z81_29 (k := 4) (f := 1) (by decide +kernel) rfl rfl ?_
  refine R_ist z81_32 (n := 300) (f := (va_up (va_up A 32 (upd (A 32) r p)) 33 (upd (A 33) r c)) 34) (h' := hp (va_up (va_up (va_up A 32 (upd (A 32) r p)) 33 (upd (A 33) r c)) 34 (upd (A 34) r (V 7))) V O) rfl (by rw [hr]; exact nin hr3 (by decide)) (by rw [hr, ncl (by omega)]; rfl) ?_
  refine R_aload z81_33 rfl ?_
  refine R_get z81_34 (k := 4) (f := 14) (by decide +kernel) rfl rfl ?_
  refine R_aload z81_37 rfl ?_
  refine R_get z81_38 (k := 4) (f := 10) (by decide +kernel) rfl rfl ?_
  refine R_iload z81_41 rfl ?_
  refine R_zst z81_42 (n := 300) (f := (va_up (va_up (va_up A 32 (upd (A 32) r p)) 33 (upd (A 33) r c)) 34 (upd (A 34) r (V 7))) 35) (h' := hp (mAdd A V r p c b) V O) rfl (by rw [hr]; exact nin hr3 (by decide)) (by rw [hr, ncl (by omega)]; rfl) ?_
  refine R_aload z81_43 rfl ?_
  refine R_dup z81_44 ?_
  refine R_get z81_45 (k := 4) (f := 10) (by decide +kernel) rfl rfl ?_
  refine R_iconst z81_48 (v := 1) (by decide) ?_
  refine R_iadd z81_49 ?_
  refine R_top (y := nI (r + 1)) (by rw [hr, nI_1]) ?_
  refine R_puti z81_50 (k := 4) (f := 10) (h' := hp (mAdd A V r p c b) (va_up V 10 (nI (r + 1))) O) (by decide +kernel) (by decide +kernel) rfl (Nat.le_of_ble_eq_true rfl) rfl ?_
  refine R_aload z81_53 rfl ?_
  refine R_get z81_54 (k := 4) (f := 10) (by decide +kernel) rfl rfl ?_
  refine R_iconst z81_57 (v := 1) (by decide) ?_
  refine R_isub z81_58 ?_
  refine R_top (y := nI r) (by exact nI_pred r) ?_
  exact R_iret z81_59 (Or.inl (by decide +kernel)) ⟨Nat.zero_le _, Nat.zero_le _⟩ (hQ)

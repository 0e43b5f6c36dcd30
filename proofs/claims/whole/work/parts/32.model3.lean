noncomputable def mSum (A : Nat → Nat → Int32) (V : Nat → Int32) (r c : Nat) : Nat → Int32
  | 0 => 0
  | k + 1 => mSum A V r c k + @ite _ (mCounts A V r k c) (Classical.propDecidable _) (A 29 c) 0
def mToday (A : Nat → Nat → Int32) (V : Nat → Int32) (c : Nat) : Nat → Nat
  | 0 => 0
  | k + 1 => mToday A V c k + (if A 33 k = nI c ∧ A 34 k = V 7 then 1 else 0)
noncomputable def mRoom (A : Nat → Nat → Int32) (V : Nat → Int32) (r c : Nat) : Int32 := if 0 ≤ mSum A V r c 20 - nI (mToday A V c r) then mSum A V r c 20 - nI (mToday A V c r) else 0
theorem nsub1 (x : Int32) (t : Nat) : x - nI t - 1 = x - nI (t + 1) := by rw [← nI_1, Int32.sub_sub]
theorem s80b_lp {l : Launch} {E : jEnv} {A : Nat → Nat → Int32} {V : Nat → Int32} {O : Nat → Int64} {Q : jO → List jC → Prop} {c n r : Nat} (hW : mWf A V n r) (hc : c < 16) (hQ : Q (.inl (some (.int (mRoom A V r c)))) (hp A V O)) : ∀ (d k : Nat), k + d = r →  GO l E 80 40 [some (.ref 25), some (.int (nI c)), some (.int (mSum A V r c 20 - nI (mToday A V c k))), some (.int (nI k))] [] (hp A V O) 0 0 Q := by
  intro d
  induction d with
  | zero =>
    intro k hk 
    have hn16 := hW.2.1
    have hr300 := hW.2.2.2.1
    refine R_iload z80_40 rfl ?_
    refine R_aload z80_41 rfl ?_
    refine R_get z80_42 (k := 4) (f := 10) (by decide +kernel) rfl rfl ?_
    refine R_icmp z80_45 (tn := 85) rfl (fun (h45 : ((V 10) : Int32) ≤ (nI k)) => ?_) (fun q => absurd ((show V 10 ≤ nI k by rw [hW.2.2.1, nge (by omega) (by omega)]; omega)) q)
    have ek : k = r := by omega
    rw [ek]
    refine R_iload z80_85 rfl ?_
    refine R_if z80_86 (tn := 93) rfl (fun (h86 : (0 : Int32) ≤ (mSum A V r c 20 - nI (mToday A V c r))) => ?_) (fun (h86 : ¬ (0 : Int32) ≤ (mSum A V r c 20 - nI (mToday A V c r))) => ?_)
    · refine R_iload z80_93 rfl ?_
      exact R_iret z80_94 (Or.inl (by decide +kernel)) ⟨Nat.zero_le _, Nat.zero_le _⟩ (by have e : mRoom A V r c = _ := if_pos h86; rw [e] at hQ; exact hQ)
    · refine R_iconst z80_89 (v := 0) (by decide) ?_
      refine R_goto z80_90 (tn := 94) rfl ?_
      exact R_iret z80_94 (Or.inl (by decide +kernel)) ⟨Nat.zero_le _, Nat.zero_le _⟩ (by have e : mRoom A V r c = _ := if_neg h86; rw [e] at hQ; exact hQ)
  | succ d ih =>
    intro k hk 
    have hn16 := hW.2.1
    have hr300 := hW.2.2.2.1
    refine R_iload z80_40 rfl ?_
    refine R_aload z80_41 rfl ?_
    refine R_get z80_42 (k := 4) (f := 10) (by decide +kernel) rfl rfl ?_
    refine R_icmp z80_45 (tn := 85) rfl (fun q => absurd q ((show ¬ V 10 ≤ nI k by rw [hW.2.2.1, nge (by omega) (by omega)]; omega))) (fun (h45 : ¬ ((V 10) : Int32) ≤ (nI k)) => ?_)
    refine R_iload z80_48 rfl ?_
    refine R_aload z80_49 rfl ?_
    refine R_get z80_50 (k := 4) (f := 12) (by decide +kernel) rfl rfl ?_
    refine R_iload z80_53 rfl ?_
    refine R_ild z80_54 (n := 300) (f := A 33) (v := (A 33 k)) rfl (nin (by omega) (by decide)) (by rw [ncl (by omega)]) ?_
    refine R_iload z80_55 rfl ?_
    refine R_icmp z80_56 (tn := 76) rfl (fun (h56 : ¬ ((A 33 k) : Int32) = (nI c)) => ?_) (fun (h56 : ¬ (¬ ((A 33 k) : Int32) = (nI c))) => ?_)
    · refine R_iconst z80_76 (v := 0) (by decide) ?_
      refine R_isub z80_77 ?_
      refine R_top (y := mSum A V r c 20 - nI (mToday A V c (k + 1))) (by rw [mToday, if_neg (fun z => h56 z.1)]; exact Int32.sub_zero _) ?_
      refine R_istore z80_78 (loc' := [some (.ref 25), some (.int (nI c)), some (.int (mSum A V r c 20 - nI (mToday A V c (k + 1)))), some (.int (nI k))]) rfl rfl ?_
      refine R_iinc z80_79 (v := 1) (loc' := [some (.ref 25), some (.int (nI c)), some (.int (mSum A V r c 20 - nI (mToday A V c (k + 1)))), some (.int (nI (k + 1)))]) rfl rfl (by decide) (by rw [nI_1]; rfl) ?_
      refine R_goto z80_82 (tn := 40) rfl ?_
      exact ih (k + 1) (by omega)
    · refine R_aload z80_59 rfl ?_
      refine R_get z80_60 (k := 4) (f := 13) (by decide +kernel) rfl rfl ?_
      refine R_iload z80_63 rfl ?_
      refine R_ild z80_64 (n := 300) (f := A 34) (v := (A 34 k)) rfl (nin (by omega) (by decide)) (by rw [ncl (by omega)]) ?_
      refine R_aload z80_65 rfl ?_
      refine R_get z80_66 (k := 4) (f := 1) (by decide +kernel) rfl rfl ?_
      refine R_icmp z80_69 (tn := 76) rfl (fun (h69 : ¬ ((A 34 k) : Int32) = (V 7)) => ?_) (fun (h69 : ¬ (¬ ((A 34 k) : Int32) = (V 7))) => ?_)
      · refine R_iconst z80_76 (v := 0) (by decide) ?_
        refine R_isub z80_77 ?_
        refine R_top (y := mSum A V r c 20 - nI (mToday A V c (k + 1))) (by rw [mToday, if_neg (fun z => h69 z.2)]; exact Int32.sub_zero _) ?_
        refine R_istore z80_78 (loc' := [some (.ref 25), some (.int (nI c)), some (.int (mSum A V r c 20 - nI (mToday A V c (k + 1)))), some (.int (nI k))]) rfl rfl ?_
        refine R_iinc z80_79 (v := 1) (loc' := [some (.ref 25), some (.int (nI c)), some (.int (mSum A V r c 20 - nI (mToday A V c (k + 1)))), some (.int (nI (k + 1)))]) rfl rfl (by decide) (by rw [nI_1]; rfl) ?_
        refine R_goto z80_82 (tn := 40) rfl ?_
        exact ih (k + 1) (by omega)
      · refine R_iconst z80_72 (v := 1) (by decide) ?_
        refine R_goto z80_73 (tn := 77) rfl ?_
        refine R_isub z80_77 ?_
        refine R_top (y := mSum A V r c 20 - nI (mToday A V c (k + 1))) (by rw [mToday, if_pos ⟨Classical.not_not.mp h56, Classical.not_not.mp h69⟩]; exact nsub1 _ _) ?_
        refine R_istore z80_78 (loc' := [some (.ref 25), some (.int (nI c)), some (.int (mSum A V r c 20 - nI (mToday A V c (k + 1)))), some (.int (nI k))]) rfl rfl ?_
        refine R_iinc z80_79 (v := 1) (loc' := [some (.ref 25), some (.int (nI c)), some (.int (mSum A V r c 20 - nI (mToday A V c (k + 1)))), some (.int (nI (k + 1)))]) rfl rfl (by decide) (by rw [nI_1]; rfl) ?_
        refine R_goto z80_82 (tn := 40) rfl ?_
        exact ih (k + 1) (by omega)
theorem s80_lp {l : Launch} {E : jEnv} {A : Nat → Nat → Int32} {V : Nat → Int32} {O : Nat → Int64} {Q : jO → List jC → Prop} {c n r : Nat} (hW : mWf A V n r) (hc : c < 16) (hQ : Q (.inl (some (.int (mRoom A V r c)))) (hp A V O)) : ∀ (d k : Nat), k + d = 20 →  GO l E 80 4 [some (.ref 25), some (.int (nI c)), some (.int (mSum A V r c k)), some (.int (nI k))] [] (hp A V O) 0 0 Q := by
  intro d
  induction d with
  | zero =>
    intro k hk 
    have hn16 := hW.2.1
    have hr300 := hW.2.2.2.1
    refine R_iload z80_4 rfl ?_
    refine R_bipush z80_5 (v := 20) (by decide) ?_
    refine R_icmp z80_7 (tn := 38) rfl (fun (h7 : (20 : Int32) ≤ (nI k)) => ?_) (fun q => absurd ((show (20 : Int32) ≤ nI k by rw [n20, nge (by omega) (by omega)]; omega)) q)
    refine R_iconst z80_38 (v := 0) (by decide) ?_
    refine R_istore z80_39 (loc' := [some (.ref 25), some (.int (nI c)), some (.int (mSum A V r c k)), some (.int 0)]) rfl rfl ?_
    have e : mSum A V r c k = mSum A V r c 20 - nI (mToday A V c 0) := by rw [show k = 20 by omega]; exact (Int32.sub_zero _).symm
    rw [e]
    exact s80b_lp hW hc hQ r 0 (by omega)
  | succ d ih =>
    intro k hk 
    have hn16 := hW.2.1
    have hr300 := hW.2.2.2.1
    refine R_iload z80_4 rfl ?_
    refine R_bipush z80_5 (v := 20) (by decide) ?_
    refine R_icmp z80_7 (tn := 38) rfl (fun q => absurd q ((show ¬ (20 : Int32) ≤ nI k by rw [n20, nge (by omega) (by omega)]; omega))) (fun (h7 : ¬ (20 : Int32) ≤ (nI k)) => ?_)
    refine R_iload z80_10 rfl ?_
    refine R_aload z80_11 rfl ?_
    refine R_iload z80_12 rfl ?_
    refine R_iload z80_13 rfl ?_
    refine R_cv z80_14 (k := 79) (by decide +kernel) rfl rfl (by decide +kernel) (Nat.le_of_ble_eq_true (by rfl)) rfl ⟨rfl, trivial⟩ ?_
    refine s79 hW (by omega) hc (fun g => jBk_ret rfl ⟨rfl, rfl⟩ ?_) (fun g => jBk_ret rfl ⟨rfl, rfl⟩ ?_)
    · refine R_if z80_17 (tn := 29) rfl (fun q => absurd (show (1 : Int32) = 0 from q) (by decide)) (fun _ => ?_)
      refine R_aload z80_20 rfl ?_
      refine R_get z80_21 (k := 4) (f := 7) (by decide +kernel) rfl rfl ?_
      refine R_iload z80_24 rfl ?_
      refine R_ild z80_25 (n := 16) (f := A 29) (v := (A 29 c)) rfl (nin hc (by decide)) (by rw [ncl (by omega)]) ?_
      refine R_goto z80_26 (tn := 30) rfl ?_
      refine R_iadd z80_30 ?_
      refine R_top (y := mSum A V r c (k + 1)) (by rw [mSum, if_pos g]) ?_
      refine R_istore z80_31 (loc' := [some (.ref 25), some (.int (nI c)), some (.int (mSum A V r c (k + 1))), some (.int (nI k))]) rfl rfl ?_
      refine R_iinc z80_32 (v := 1) (loc' := [some (.ref 25), some (.int (nI c)), some (.int (mSum A V r c (k + 1))), some (.int (nI (k + 1)))]) rfl rfl (by decide) (by rw [nI_1]; rfl) ?_
      refine R_goto z80_35 (tn := 4) rfl ?_
      exact ih (k + 1) (by omega)
    · refine R_if z80_17 (tn := 29) rfl (fun _ => ?_) (fun q => absurd (show (0 : Int32) = 0 by decide) q)
      refine R_iconst z80_29 (v := 0) (by decide) ?_
      refine R_iadd z80_30 ?_
      refine R_top (y := mSum A V r c (k + 1)) (by rw [mSum, if_neg g]) ?_
      refine R_istore z80_31 (loc' := [some (.ref 25), some (.int (nI c)), some (.int (mSum A V r c (k + 1))), some (.int (nI k))]) rfl rfl ?_
      refine R_iinc z80_32 (v := 1) (loc' := [some (.ref 25), some (.int (nI c)), some (.int (mSum A V r c (k + 1))), some (.int (nI (k + 1)))]) rfl rfl (by decide) (by rw [nI_1]; rfl) ?_
      refine R_goto z80_35 (tn := 4) rfl ?_
      exact ih (k + 1) (by omega)
theorem s80 {l : Launch} {E : jEnv} {A : Nat → Nat → Int32} {V : Nat → Int32} {O : Nat → Int64} {Q : jO → List jC → Prop} {c n r : Nat} (hW : mWf A V n r) (hc : c < 16) (hQ : Q (.inl (some (.int (mRoom A V r c)))) (hp A V O)) : GO l E 80 0 [some (.ref 25), some (.int (nI c)), none, none] [] (hp A V O) 0 0 Q := by
  refine R_iconst z80_0 (v := 0) (by decide) ?_
  refine R_istore z80_1 (loc' := [some (.ref 25), some (.int (nI c)), some (.int 0), none]) rfl rfl ?_
  refine R_iconst z80_2 (v := 0) (by decide) ?_
  refine R_istore z80_3 (loc' := [some (.ref 25), some (.int (nI c)), some (.int 0), some (.int 0)]) rfl rfl ?_
  exact s80_lp hW hc hQ 20 0 (by omega)
theorem s70 {l : Launch} {E : jEnv} {A : Nat → Nat → Int32} {V : Nat → Int32} {O : Nat → Int64} {Q : jO → List jC → Prop} {d : Int32} (hI : ¬ jrg d 0 1000 → Q (.inl none) (hp A (va_up V 6 1) O)) (hQ : jrg d 0 1000 → Q (.inl none) (hp A (va_up (va_up V 6 0) 8 d) O)) : GO l E 70 0 [some (.ref 25), some (.int d)] [] (hp A V O) 0 0 Q := by
  refine R_aload z70_0 rfl ?_
  refine R_iload z70_1 rfl ?_
  refine R_iconst z70_2 (v := 0) (by decide) ?_
  refine R_sipush z70_3 (v := 1000) (by decide) ?_
  refine R_cs z70_6 (k := 64) (kind := 1) (by decide +kernel) (by decide) rfl rfl (by decide +kernel) (Nat.le_of_ble_eq_true (by rfl)) rfl ?_
  refine s64 (fun g => jBk_ret rfl ⟨rfl, rfl⟩ ?_) (fun g => jBk_ret rfl ⟨rfl, rfl⟩ ?_)
  · refine R_if z70_9 (tn := 16) rfl (fun _ => ?_) (fun q => absurd (show ¬ (1 : Int32) = 0 by decide) q)
    refine R_iconst z70_16 (v := 0) (by decide) ?_
    refine R_iconst z70_17 (v := 0) (by decide) ?_
    refine R_iconst z70_18 (v := 0) (by decide) ?_
    refine R_iconst z70_19 (v := 0) (by decide) ?_
    refine R_cv z70_20 (k := 63) (by decide +kernel) rfl rfl (by decide +kernel) (Nat.le_of_ble_eq_true (by rfl)) rfl ⟨rfl, trivial⟩ ?_
    refine s63 (fun _ => jBk_ret rfl ⟨rfl, rfl⟩ ?_) (fun q => absurd rfl q)
    refine R_if z70_23 (tn := 27) rfl (fun _ => ?_) (fun q => absurd (show (0 : Int32) = 0 by decide) q)
    refine R_aload z70_27 rfl ?_
    refine R_iload z70_28 rfl ?_
    refine R_puti z70_29 (k := 4) (f := 2) (h' := hp A (va_up (va_up V 6 0) 8 d) O) (by decide +kernel) (by decide +kernel) rfl (Nat.le_of_ble_eq_true rfl) rfl ?_
    exact R_vret z70_32 ⟨Nat.zero_le _, Nat.zero_le _⟩ (hQ g)
  · refine R_if z70_9 (tn := 16) rfl (fun q => absurd (show ¬ (0 : Int32) = 0 from q) (by decide)) (fun _ => ?_)
    refine R_iconst z70_12 (v := 1) (by decide) ?_
    refine R_goto z70_13 (tn := 17) rfl ?_
    refine R_iconst z70_17 (v := 0) (by decide) ?_
    refine R_iconst z70_18 (v := 0) (by decide) ?_
    refine R_iconst z70_19 (v := 0) (by decide) ?_
    refine R_cv z70_20 (k := 63) (by decide +kernel) rfl rfl (by decide +kernel) (Nat.le_of_ble_eq_true (by rfl)) rfl ⟨rfl, trivial⟩ ?_
    refine s63 (fun q => absurd q (by decide)) (fun _ => jBk_ret rfl ⟨rfl, rfl⟩ ?_)
    refine R_if z70_23 (tn := 27) rfl (fun q => absurd (show (1 : Int32) = 0 from q) (by decide)) (fun _ => ?_)
    exact R_vret z70_26 ⟨Nat.zero_le _, Nat.zero_le _⟩ (hI g)
theorem s71 {l : Launch} {E : jEnv} {A : Nat → Nat → Int32} {V : Nat → Int32} {O : Nat → Int64} {Q : jO → List jC → Prop} {d : Int32} (hI : ¬ jrg d (V 7) 9999 → Q (.inl none) (hp A (va_up V 6 1) O)) (hQ : jrg d (V 7) 9999 → Q (.inl none) (hp A (va_up (va_up V 6 0) 7 d) O)) : GO l E 71 0 [some (.ref 25), some (.int d)] [] (hp A V O) 0 0 Q := by
  refine R_aload z71_0 rfl ?_
  refine R_iload z71_1 rfl ?_
  refine R_aload z71_2 rfl ?_
  refine R_get z71_3 (k := 4) (f := 1) (by decide +kernel) rfl rfl ?_
  refine R_icmp z71_6 (tn := 16) rfl (fun (h6 : (d : Int32) < (V 7)) => ?_) (fun (h6 : ¬ (d : Int32) < (V 7)) => ?_)
  · refine R_iconst z71_16 (v := 1) (by decide) ?_
    refine R_goto z71_17 (tn := 21) rfl ?_
    refine R_iconst z71_21 (v := 0) (by decide) ?_
    refine R_iconst z71_22 (v := 0) (by decide) ?_
    refine R_iconst z71_23 (v := 0) (by decide) ?_
    refine R_cv z71_24 (k := 63) (by decide +kernel) rfl rfl (by decide +kernel) (Nat.le_of_ble_eq_true (by rfl)) rfl ⟨rfl, trivial⟩ ?_
    refine s63 (fun q => absurd q (by decide)) (fun _ => jBk_ret rfl ⟨rfl, rfl⟩ ?_)
    refine R_if z71_27 (tn := 31) rfl (fun q => absurd (show (1 : Int32) = 0 from q) (by decide)) (fun _ => ?_)
    exact R_vret z71_30 ⟨Nat.zero_le _, Nat.zero_le _⟩ (hI (fun z => z.1 h6))
  · refine R_iload z71_9 rfl ?_
    refine R_sipush z71_10 (v := 9999) (by decide) ?_
    refine R_icmp z71_13 (tn := 20) rfl (fun (h13 : (d : Int32) ≤ 9999) => ?_) (fun (h13 : ¬ (d : Int32) ≤ 9999) => ?_)
    · refine R_iconst z71_20 (v := 0) (by decide) ?_
      refine R_iconst z71_21 (v := 0) (by decide) ?_
      refine R_iconst z71_22 (v := 0) (by decide) ?_
      refine R_iconst z71_23 (v := 0) (by decide) ?_
      refine R_cv z71_24 (k := 63) (by decide +kernel) rfl rfl (by decide +kernel) (Nat.le_of_ble_eq_true (by rfl)) rfl ⟨rfl, trivial⟩ ?_
      refine s63 (fun _ => jBk_ret rfl ⟨rfl, rfl⟩ ?_) (fun q => absurd rfl q)
      refine R_if z71_27 (tn := 31) rfl (fun _ => ?_) (fun q => absurd (show (0 : Int32) = 0 by decide) q)
      refine R_aload z71_31 rfl ?_
      refine R_iload z71_32 rfl ?_
      refine R_puti z71_33 (k := 4) (f := 1) (h' := hp A (va_up (va_up V 6 0) 7 d) O) (by decide +kernel) (by decide +kernel) rfl (Nat.le_of_ble_eq_true rfl) rfl ?_
      exact R_vret z71_36 ⟨Nat.zero_le _, Nat.zero_le _⟩ (hQ ⟨h6, h13⟩)
    · refine R_iconst z71_16 (v := 1) (by decide) ?_
      refine R_goto z71_17 (tn := 21) rfl ?_
      refine R_iconst z71_21 (v := 0) (by decide) ?_
      refine R_iconst z71_22 (v := 0) (by decide) ?_
      refine R_iconst z71_23 (v := 0) (by decide) ?_
      refine R_cv z71_24 (k := 63) (by decide +kernel) rfl rfl (by decide +kernel) (Nat.le_of_ble_eq_true (by rfl)) rfl ⟨rfl, trivial⟩ ?_
      refine s63 (fun q => absurd q (by decide)) (fun _ => jBk_ret rfl ⟨rfl, rfl⟩ ?_)
      refine R_if z71_27 (tn := 31) rfl (fun q => absurd (show (1 : Int32) = 0 from q) (by decide)) (fun _ => ?_)
      exact R_vret z71_30 ⟨Nat.zero_le _, Nat.zero_le _⟩ (hI (fun z => h13 z.2))
def mCrs (A : Nat → Nat → Int32) (n : Nat) (t p c : Int32) : Nat → Nat → Int32 := va_up (va_up (va_up (va_up A 26 (upd (A 26) n t)) 27 (upd (A 27) n p)) 28 (upd (A 28) n c)) 29 (upd (A 29) n 3)
theorem s67 {l : Launch} {E : jEnv} {A : Nat → Nat → Int32} {V : Nat → Int32} {O : Nat → Int64} {Q : jO → List jC → Prop} {t p c : Int32} { n r : Nat} (hW : mWf A V n r) (hI : ¬ (jrg t 1 2000 ∧ jrg p 0 100 ∧ jrg c 0 50) → Q (.inl (some (.int 0))) (hp A (va_up V 6 1) O)) (hU : (jrg t 1 2000 ∧ jrg p 0 100 ∧ jrg c 0 50) → n = 16 → Q (.inl (some (.int 0))) (hp A (va_up V 6 2) O)) (hQ : (jrg t 1 2000 ∧ jrg p 0 100 ∧ jrg c 0 50) → n < 16 → Q (.inl (some (.int (nI n)))) (hp (mCrs A n t p c) (va_up (va_up V 6 0) 9 (nI (n + 1))) O)) : GO l E 67 0 [some (.ref 25), some (.int t), some (.int p), some (.int c)] [] (hp A V O) 0 0 Q := by
  have hn16 := hW.2.1
  refine R_aload z67_0 rfl ?_
  refine R_iload z67_1 rfl ?_
  refine R_iconst z67_2 (v := 1) (by decide) ?_
  refine R_sipush z67_3 (v := 2000) (by decide) ?_
  refine R_cs z67_6 (k := 64) (kind := 1) (by decide +kernel) (by decide) rfl rfl (by decide +kernel) (Nat.le_of_ble_eq_true (by rfl)) rfl ?_
  refine s64 (fun g6 => jBk_ret rfl ⟨rfl, rfl⟩ ?_) (fun g6 => jBk_ret rfl ⟨rfl, rfl⟩ ?_)
  · refine R_if z67_9 (tn := 32) rfl (fun q => absurd (show (1 : Int32) = 0 from q) (by decide)) (fun _ => ?_)
    refine R_iload z67_12 rfl ?_
    refine R_iconst z67_13 (v := 0) (by decide) ?_
    refine R_bipush z67_14 (v := 100) (by decide) ?_
    refine R_cs z67_16 (k := 64) (kind := 1) (by decide +kernel) (by decide) rfl rfl (by decide +kernel) (Nat.le_of_ble_eq_true (by rfl)) rfl ?_
    refine s64 (fun g16 => jBk_ret rfl ⟨rfl, rfl⟩ ?_) (fun g16 => jBk_ret rfl ⟨rfl, rfl⟩ ?_)
    · refine R_if z67_19 (tn := 32) rfl (fun q => absurd (show (1 : Int32) = 0 from q) (by decide)) (fun _ => ?_)
      refine R_iload z67_22 rfl ?_
      refine R_iconst z67_23 (v := 0) (by decide) ?_
      refine R_bipush z67_24 (v := 50) (by decide) ?_
      refine R_cs z67_26 (k := 64) (kind := 1) (by decide +kernel) (by decide) rfl rfl (by decide +kernel) (Nat.le_of_ble_eq_true (by rfl)) rfl ?_
      refine s64 (fun g26 => jBk_ret rfl ⟨rfl, rfl⟩ ?_) (fun g26 => jBk_ret rfl ⟨rfl, rfl⟩ ?_)
      · refine R_if z67_29 (tn := 36) rfl (fun _ => ?_) (fun q => absurd (show ¬ (1 : Int32) = 0 by decide) q)
        refine R_iconst z67_36 (v := 0) (by decide) ?_
        refine R_aload z67_37 rfl ?_
        refine R_get z67_38 (k := 4) (f := 3) (by decide +kernel) rfl rfl ?_
        refine R_bipush z67_41 (v := 16) (by decide) ?_
        refine R_icmp z67_43 (tn := 50) rfl (fun (h43 : ¬ ((V 9) : Int32) = 16) => ?_) (fun (h43 : ¬ (¬ ((V 9) : Int32) = 16)) => ?_)
        · refine R_iconst z67_50 (v := 0) (by decide) ?_
          refine R_iconst z67_51 (v := 0) (by decide) ?_
          refine R_iconst z67_52 (v := 0) (by decide) ?_
          refine R_cv z67_53 (k := 63) (by decide +kernel) rfl rfl (by decide +kernel) (Nat.le_of_ble_eq_true (by rfl)) rfl ⟨rfl, trivial⟩ ?_
          refine s63 (fun _ => jBk_ret rfl ⟨rfl, rfl⟩ ?_) (fun q => absurd rfl q)
          refine R_if z67_56 (tn := 61) rfl (fun _ => ?_) (fun q => absurd (show (0 : Int32) = 0 by decide) q)
          have hlt : n < 16 := by
            have h9 : ¬ n = 16 := fun z => h43 (by rw [hW.1, z]; decide)
            omega
          refine R_aload z67_61 rfl ?_
          refine R_get z67_62 (k := 4) (f := 4) (by decide +kernel) rfl rfl ?_
          refine R_aload z67_65 rfl ?_
          refine R_get z67_66 (k := 4) (f := 3) (by decide +kernel) rfl rfl ?_
          refine R_iload z67_69 rfl ?_
          refine R_ist z67_70 (n := 16) (f := A 26) (h' := hp (va_up A 26 (upd (A 26) n t)) (va_up V 6 0) O) rfl (by rw [show (va_up V 6 0) 9 = nI n from hW.1]; exact nin hlt (by decide)) (by rw [show (va_up V 6 0) 9 = nI n from hW.1, ncl (by omega)]; rfl) ?_
          refine R_aload z67_71 rfl ?_
          refine R_get z67_72 (k := 4) (f := 5) (by decide +kernel) rfl rfl ?_
          refine R_aload z67_75 rfl ?_
          refine R_get z67_76 (k := 4) (f := 3) (by decide +kernel) rfl rfl ?_
          refine R_iload z67_79 rfl ?_
          refine R_ist z67_80 (n := 16) (f := (va_up A 26 (upd (A 26) n t)) 27) (h' := hp (va_up (va_up A 26 (upd (A 26) n t)) 27 (upd (A 27) n p)) (va_up V 6 0) O) rfl (by rw [show (va_up V 6 0) 9 = nI n from hW.1]; exact nin hlt (by decide)) (by rw [show (va_up V 6 0) 9 = nI n from hW.1, ncl (by omega)]; rfl) ?_
          refine R_aload z67_81 rfl ?_
          refine R_get z67_82 (k := 4) (f := 6) (by decide +kernel) rfl rfl ?_
          refine R_aload z67_85 rfl ?_
          refine R_get z67_86 (k := 4) (f := 3) (by decide +kernel) rfl rfl ?_
          refine R_iload z67_89 rfl ?_
          refine R_ist z67_90 (n := 16) (f := (va_up (va_up A 26 (upd (A 26) n t)) 27 (upd (A 27) n p)) 28) (h' := hp (va_up (va_up (va_up A 26 (upd (A 26) n t)) 27 (upd (A 27) n p)) 28 (upd (A 28) n c)) (va_up V 6 0) O) rfl (by rw [show (va_up V 6 0) 9 = nI n from hW.1]; exact nin hlt (by decide)) (by rw [show (va_up V 6 0) 9 = nI n from hW.1, ncl (by omega)]; rfl) ?_
          refine R_aload z67_91 rfl ?_
          refine R_get z67_92 (k := 4) (f := 7) (by decide +kernel) rfl rfl ?_
          refine R_aload z67_95 rfl ?_
          refine R_get z67_96 (k := 4) (f := 3) (by decide +kernel) rfl rfl ?_
          refine R_iconst z67_99 (v := 3) (by decide) ?_
          refine R_ist z67_100 (n := 16) (f := (va_up (va_up (va_up A 26 (upd (A 26) n t)) 27 (upd (A 27) n p)) 28 (upd (A 28) n c)) 29) (h' := hp (mCrs A n t p c) (va_up V 6 0) O) rfl (by rw [show (va_up V 6 0) 9 = nI n from hW.1]; exact nin hlt (by decide)) (by rw [show (va_up V 6 0) 9 = nI n from hW.1, ncl (by omega)]; rfl) ?_
          refine R_aload z67_101 rfl ?_
          refine R_dup z67_102 ?_
          refine R_get z67_103 (k := 4) (f := 3) (by decide +kernel) rfl rfl ?_
          refine R_iconst z67_106 (v := 1) (by decide) ?_
          refine R_iadd z67_107 ?_
          refine R_top (y := nI (n + 1)) (by rw [show (va_up V 6 0) 9 = nI n from hW.1, nI_1]) ?_
          refine R_puti z67_108 (k := 4) (f := 3) (h' := hp (mCrs A n t p c) (va_up (va_up V 6 0) 9 (nI (n + 1))) O) (by decide +kernel) (by decide +kernel) rfl (Nat.le_of_ble_eq_true rfl) rfl ?_
          refine R_aload z67_111 rfl ?_
          refine R_get z67_112 (k := 4) (f := 3) (by decide +kernel) rfl rfl ?_
          refine R_iconst z67_115 (v := 1) (by decide) ?_
          refine R_isub z67_116 ?_
          refine R_top (y := nI n) (by exact nI_pred n) ?_
          exact R_iret z67_117 (Or.inl (by decide +kernel)) ⟨Nat.zero_le _, Nat.zero_le _⟩ (hQ ⟨g6, g16, g26⟩ hlt)
        · refine R_iconst z67_46 (v := 1) (by decide) ?_
          refine R_goto z67_47 (tn := 51) rfl ?_
          refine R_iconst z67_51 (v := 0) (by decide) ?_
          refine R_iconst z67_52 (v := 0) (by decide) ?_
          refine R_cv z67_53 (k := 63) (by decide +kernel) rfl rfl (by decide +kernel) (Nat.le_of_ble_eq_true (by rfl)) rfl ⟨rfl, trivial⟩ ?_
          refine s63 (fun q => absurd q (by decide)) (fun _ => jBk_ret rfl ⟨rfl, rfl⟩ ?_)
          refine R_if z67_56 (tn := 61) rfl (fun q => absurd (show (1 : Int32) = 0 from q) (by decide)) (fun _ => ?_)
          refine R_iconst z67_59 (v := 0) (by decide) ?_
          exact R_iret z67_60 (Or.inl (by decide +kernel)) ⟨Nat.zero_le _, Nat.zero_le _⟩ (hU ⟨g6, g16, g26⟩ (by have h9 := Classical.not_not.mp h43; rw [hW.1, show (16 : Int32) = nI 16 by decide, nI_eq (by omega) (by omega)] at h9; exact h9))
      · refine R_if z67_29 (tn := 36) rfl (fun q => absurd (show ¬ (0 : Int32) = 0 from q) (by decide)) (fun _ => ?_)
        refine R_iconst z67_32 (v := 1) (by decide) ?_
        refine R_goto z67_33 (tn := 37) rfl ?_
        refine R_aload z67_37 rfl ?_
        refine R_get z67_38 (k := 4) (f := 3) (by decide +kernel) rfl rfl ?_
        refine R_bipush z67_41 (v := 16) (by decide) ?_
        refine R_icmp z67_43 (tn := 50) rfl (fun (h43 : ¬ ((V 9) : Int32) = 16) => ?_) (fun (h43 : ¬ (¬ ((V 9) : Int32) = 16)) => ?_)
        · refine R_iconst z67_50 (v := 0) (by decide) ?_
          refine R_iconst z67_51 (v := 0) (by decide) ?_
          refine R_iconst z67_52 (v := 0) (by decide) ?_
          refine R_cv z67_53 (k := 63) (by decide +kernel) rfl rfl (by decide +kernel) (Nat.le_of_ble_eq_true (by rfl)) rfl ⟨rfl, trivial⟩ ?_
          refine s63 (fun q => absurd q (by decide)) (fun _ => jBk_ret rfl ⟨rfl, rfl⟩ ?_)
          refine R_if z67_56 (tn := 61) rfl (fun q => absurd (show (1 : Int32) = 0 from q) (by decide)) (fun _ => ?_)
          refine R_iconst z67_59 (v := 0) (by decide) ?_
          exact R_iret z67_60 (Or.inl (by decide +kernel)) ⟨Nat.zero_le _, Nat.zero_le _⟩ (hI (fun z => g26 z.2.2))
        · refine R_iconst z67_46 (v := 1) (by decide) ?_
          refine R_goto z67_47 (tn := 51) rfl ?_
          refine R_iconst z67_51 (v := 0) (by decide) ?_
          refine R_iconst z67_52 (v := 0) (by decide) ?_
          refine R_cv z67_53 (k := 63) (by decide +kernel) rfl rfl (by decide +kernel) (Nat.le_of_ble_eq_true (by rfl)) rfl ⟨rfl, trivial⟩ ?_
          refine s63 (fun q => absurd q (by decide)) (fun _ => jBk_ret rfl ⟨rfl, rfl⟩ ?_)
          refine R_if z67_56 (tn := 61) rfl (fun q => absurd (show (1 : Int32) = 0 from q) (by decide)) (fun _ => ?_)
          refine R_iconst z67_59 (v := 0) (by decide) ?_
          exact R_iret z67_60 (Or.inl (by decide +kernel)) ⟨Nat.zero_le _, Nat.zero_le _⟩ (hI (fun z => g26 z.2.2))
    · refine R_if z67_19 (tn := 32) rfl (fun _ => ?_) (fun q => absurd (show (0 : Int32) = 0 by decide) q)
      refine R_iconst z67_32 (v := 1) (by decide) ?_
      refine R_goto z67_33 (tn := 37) rfl ?_
      refine R_aload z67_37 rfl ?_
      refine R_get z67_38 (k := 4) (f := 3) (by decide +kernel) rfl rfl ?_
      refine R_bipush z67_41 (v := 16) (by decide) ?_
      refine R_icmp z67_43 (tn := 50) rfl (fun (h43 : ¬ ((V 9) : Int32) = 16) => ?_) (fun (h43 : ¬ (¬ ((V 9) : Int32) = 16)) => ?_)
      · refine R_iconst z67_50 (v := 0) (by decide) ?_
        refine R_iconst z67_51 (v := 0) (by decide) ?_
        refine R_iconst z67_52 (v := 0) (by decide) ?_
        refine R_cv z67_53 (k := 63) (by decide +kernel) rfl rfl (by decide +kernel) (Nat.le_of_ble_eq_true (by rfl)) rfl ⟨rfl, trivial⟩ ?_
        refine s63 (fun q => absurd q (by decide)) (fun _ => jBk_ret rfl ⟨rfl, rfl⟩ ?_)
        refine R_if z67_56 (tn := 61) rfl (fun q => absurd (show (1 : Int32) = 0 from q) (by decide)) (fun _ => ?_)
        refine R_iconst z67_59 (v := 0) (by decide) ?_
        exact R_iret z67_60 (Or.inl (by decide +kernel)) ⟨Nat.zero_le _, Nat.zero_le _⟩ (hI (fun z => g16 z.2.1))
      · refine R_iconst z67_46 (v := 1) (by decide) ?_
        refine R_goto z67_47 (tn := 51) rfl ?_
        refine R_iconst z67_51 (v := 0) (by decide) ?_
        refine R_iconst z67_52 (v := 0) (by decide) ?_
        refine R_cv z67_53 (k := 63) (by decide +kernel) rfl rfl (by decide +kernel) (Nat.le_of_ble_eq_true (by rfl)) rfl ⟨rfl, trivial⟩ ?_
        refine s63 (fun q => absurd q (by decide)) (fun _ => jBk_ret rfl ⟨rfl, rfl⟩ ?_)
        refine R_if z67_56 (tn := 61) rfl (fun q => absurd (show (1 : Int32) = 0 from q) (by decide)) (fun _ => ?_)
        refine R_iconst z67_59 (v := 0) (by decide) ?_
        exact R_iret z67_60 (Or.inl (by decide +kernel)) ⟨Nat.zero_le _, Nat.zero_le _⟩ (hI (fun z => g16 z.2.1))
  · refine R_if z67_9 (tn := 32) rfl (fun _ => ?_) (fun q => absurd (show (0 : Int32) = 0 by decide) q)
    refine R_iconst z67_32 (v := 1) (by decide) ?_
    refine R_goto z67_33 (tn := 37) rfl ?_
    refine R_aload z67_37 rfl ?_
    refine R_get z67_38 (k := 4) (f := 3) (by decide +kernel) rfl rfl ?_
    refine R_bipush z67_41 (v := 16) (by decide) ?_
    refine R_icmp z67_43 (tn := 50) rfl (fun (h43 : ¬ ((V 9) : Int32) = 16) => ?_) (fun (h43 : ¬ (¬ ((V 9) : Int32) = 16)) => ?_)
    · refine R_iconst z67_50 (v := 0) (by decide) ?_
      refine R_iconst z67_51 (v := 0) (by decide) ?_
      refine R_iconst z67_52 (v := 0) (by decide) ?_
      refine R_cv z67_53 (k := 63) (by decide +kernel) rfl rfl (by decide +kernel) (Nat.le_of_ble_eq_true (by rfl)) rfl ⟨rfl, trivial⟩ ?_
      refine s63 (fun q => absurd q (by decide)) (fun _ => jBk_ret rfl ⟨rfl, rfl⟩ ?_)
      refine R_if z67_56 (tn := 61) rfl (fun q => absurd (show (1 : Int32) = 0 from q) (by decide)) (fun _ => ?_)
      refine R_iconst z67_59 (v := 0) (by decide) ?_
      exact R_iret z67_60 (Or.inl (by decide +kernel)) ⟨Nat.zero_le _, Nat.zero_le _⟩ (hI (fun z => g6 z.1))
    · refine R_iconst z67_46 (v := 1) (by decide) ?_
      refine R_goto z67_47 (tn := 51) rfl ?_
      refine R_iconst z67_51 (v := 0) (by decide) ?_
      refine R_iconst z67_52 (v := 0) (by decide) ?_
      refine R_cv z67_53 (k := 63) (by decide +kernel) rfl rfl (by decide +kernel) (Nat.le_of_ble_eq_true (by rfl)) rfl ⟨rfl, trivial⟩ ?_
      refine s63 (fun q => absurd q (by decide)) (fun _ => jBk_ret rfl ⟨rfl, rfl⟩ ?_)
      refine R_if z67_56 (tn := 61) rfl (fun q => absurd (show (1 : Int32) = 0 from q) (by decide)) (fun _ => ?_)
      refine R_iconst z67_59 (v := 0) (by decide) ?_
      exact R_iret z67_60 (Or.inl (by decide +kernel)) ⟨Nat.zero_le _, Nat.zero_le _⟩ (hI (fun z => g6 z.1))

def cNote (A : Nat → Nat → Int32) (c : Nat) : Nat → Nat → Int32 := va_up (va_up A 10 (upd (A 10) c 1)) 9 (upd (A 9) c (A 9 c + 1))
theorem s8 {l : Launch} {E : jEnv} {A : Nat → Nat → Int32} {V : Nat → Int32} {O : Nat → Int64} {Q : jO → List jC → Prop} {c : Nat} (hc : c < 16) (hQ : Q (.inl none) (hp (cNote A c) V O)) : GO l E 8 0 [some (.ref 1), some (.int (nI c))] [] (hp A V O) 0 0 Q := by
  refine R_aload z8_0 rfl ?_
  refine R_get z8_1 (k := 0) (f := 8) (by decide +kernel) rfl rfl ?_
  refine R_iload z8_4 rfl ?_
  refine R_iconst z8_5 (v := 1) (by decide) ?_
  refine R_zst z8_6 (n := 16) (f := A 10) (h' := hp (va_up A 10 (upd (A 10) c 1)) V O) rfl (nin hc (by decide)) (by rw [ncl (by omega)]; rfl) ?_
  refine R_aload z8_7 rfl ?_
  refine R_get z8_8 (k := 0) (f := 7) (by decide +kernel) rfl rfl ?_
  refine R_iload z8_11 rfl ?_
  refine R_dup2 z8_12 ?_
  refine R_ild z8_13 (n := 16) (f := (va_up A 10 (upd (A 10) c 1)) 9) (v := (A 9 c)) rfl (nin hc (by decide)) (by rw [ncl (by omega)]; rfl) ?_
  refine R_iconst z8_14 (v := 1) (by decide) ?_
  refine R_iadd z8_15 ?_
  refine R_ist z8_16 (n := 16) (f := (va_up A 10 (upd (A 10) c 1)) 9) (h' := hp (cNote A c) V O) rfl (nin hc (by decide)) (by rw [ncl (by omega)]; rfl) ?_
  exact R_vret z8_17 ⟨Nat.zero_le _, Nat.zero_le _⟩ (hQ)
def cAdd0 (A : Nat → Nat → Int32) (q r : Nat) (d : Int32) : Nat → Nat → Int32 := va_up (va_up (va_up A 12 (upd (A 12) r d)) 13 (upd (A 13) r (A 15 q))) 16 (upd (A 16) q d)
def cAddP (A : Nat → Nat → Int32) (q r : Nat) (d : Int32) : Nat → Nat → Int32 := va_up (va_up (cAdd0 A q r d) 15 (upd (A 15) q (nI r))) 17 (upd (A 17) q 0)
def cAddF (A : Nat → Nat → Int32) (q r : Nat) (d : Int32) : Nat → Nat → Int32 := va_up (cAdd0 A q r d) 17 (upd (A 17) q (A 17 q + 1))
theorem s12p {l : Launch} {E : jEnv} {A : Nat → Nat → Int32} {V : Nat → Int32} {O : Nat → Int64} {Q : jO → List jC → Prop} {q r : Nat} {d : Int32} (hr : V 3 = nI r) (hr3 : r < 300) (hq : q < 320) (hQ : Q (.inl (some (.int (nI r)))) (hp (cAddP A q r d) (va_up (va_up V 3 (nI (r + 1))) 4 (V 4 + 1)) O)) : GO l E 12 0 [some (.ref 11), some (.int (nI q)), some (.int d), some (.int 1), none] [] (hp A V O) 0 0 Q := by
  refine R_aload z12_0 rfl ?_
  refine R_get z12_1 (k := 1) (f := 7) (by decide +kernel) rfl rfl ?_
  refine R_top (y := nI r) (hr) ?_
  refine R_istore z12_4 (loc' := [some (.ref 11), some (.int (nI q)), some (.int d), some (.int 1), some (.int (nI r))]) rfl rfl ?_
  refine R_aload z12_6 rfl ?_
  refine R_dup z12_7 ?_
  refine R_get z12_8 (k := 1) (f := 7) (by decide +kernel) rfl rfl ?_
  refine R_iconst z12_11 (v := 1) (by decide) ?_
  refine R_iadd z12_12 ?_
  refine R_top (y := nI (r + 1)) (by rw [hr, nI_1]) ?_
  refine R_puti z12_13 (k := 1) (f := 7) (h' := hp A (va_up V 3 (nI (r + 1))) O) (by decide +kernel) (by decide +kernel) rfl (Nat.le_of_ble_eq_true rfl) rfl ?_
  refine R_aload z12_16 rfl ?_
  refine R_get z12_17 (k := 1) (f := 0) (by decide +kernel) rfl rfl ?_
  refine R_iload z12_20 rfl ?_
  refine R_iload z12_22 rfl ?_
  refine R_ist z12_23 (n := 300) (f := A 12) (h' := hp (va_up A 12 (upd (A 12) r d)) (va_up V 3 (nI (r + 1))) O) rfl (nin hr3 (by decide)) (by rw [ncl (by omega)]; rfl) ?_
  refine R_aload z12_24 rfl ?_
  refine R_get z12_25 (k := 1) (f := 1) (by decide +kernel) rfl rfl ?_
  refine R_iload z12_28 rfl ?_
  refine R_aload z12_30 rfl ?_
  refine R_get z12_31 (k := 1) (f := 3) (by decide +kernel) rfl rfl ?_
  refine R_iload z12_34 rfl ?_
  refine R_ild z12_35 (n := 320) (f := (va_up A 12 (upd (A 12) r d)) 15) (v := (A 15 q)) rfl (nin hq (by decide)) (by rw [ncl (by omega)]; rfl) ?_
  refine R_ist z12_36 (n := 300) (f := (va_up A 12 (upd (A 12) r d)) 13) (h' := hp (va_up (va_up A 12 (upd (A 12) r d)) 13 (upd (A 13) r (A 15 q))) (va_up V 3 (nI (r + 1))) O) rfl (nin hr3 (by decide)) (by rw [ncl (by omega)]; rfl) ?_
  refine R_aload z12_37 rfl ?_
  refine R_get z12_38 (k := 1) (f := 4) (by decide +kernel) rfl rfl ?_
  refine R_iload z12_41 rfl ?_
  refine R_iload z12_42 rfl ?_
  refine R_ist z12_43 (n := 320) (f := (va_up (va_up A 12 (upd (A 12) r d)) 13 (upd (A 13) r (A 15 q))) 16) (h' := hp (cAdd0 A q r d) (va_up V 3 (nI (r + 1))) O) rfl (nin hq (by decide)) (by rw [ncl (by omega)]; rfl) ?_
  refine R_iload z12_44 rfl ?_
  refine R_if z12_45 (tn := 76) rfl (fun q => absurd (show (1 : Int32) = 0 from q) (by decide)) (fun _ => ?_)
  refine R_aload z12_48 rfl ?_
  refine R_dup z12_49 ?_
  refine R_get z12_50 (k := 1) (f := 8) (by decide +kernel) rfl rfl ?_
  refine R_iconst z12_53 (v := 1) (by decide) ?_
  refine R_iadd z12_54 ?_
  refine R_puti z12_55 (k := 1) (f := 8) (h' := hp (cAdd0 A q r d) (va_up (va_up V 3 (nI (r + 1))) 4 (((va_up V 3 (nI (r + 1))) 4) + 1)) O) (by decide +kernel) (by decide +kernel) rfl (Nat.le_of_ble_eq_true rfl) rfl ?_
  refine R_aload z12_58 rfl ?_
  refine R_get z12_59 (k := 1) (f := 3) (by decide +kernel) rfl rfl ?_
  refine R_iload z12_62 rfl ?_
  refine R_iload z12_63 rfl ?_
  refine R_ist z12_65 (n := 320) (f := (cAdd0 A q r d) 15) (h' := hp (va_up (cAdd0 A q r d) 15 (upd (A 15) q (nI r))) (va_up (va_up V 3 (nI (r + 1))) 4 (((va_up V 3 (nI (r + 1))) 4) + 1)) O) rfl (nin hq (by decide)) (by rw [ncl (by omega)]; rfl) ?_
  refine R_aload z12_66 rfl ?_
  refine R_get z12_67 (k := 1) (f := 5) (by decide +kernel) rfl rfl ?_
  refine R_iload z12_70 rfl ?_
  refine R_iconst z12_71 (v := 0) (by decide) ?_
  refine R_ist z12_72 (n := 320) (f := (va_up (cAdd0 A q r d) 15 (upd (A 15) q (nI r))) 17) (h' := hp (cAddP A q r d) (va_up (va_up V 3 (nI (r + 1))) 4 (((va_up V 3 (nI (r + 1))) 4) + 1)) O) rfl (nin hq (by decide)) (by rw [ncl (by omega)]; rfl) ?_
  refine R_goto z12_73 (tn := 86) rfl ?_
  refine R_iload z12_86 rfl ?_
  exact R_iret z12_88 (Or.inl (by decide +kernel)) ⟨Nat.zero_le _, Nat.zero_le _⟩ (hQ)
theorem s12f {l : Launch} {E : jEnv} {A : Nat → Nat → Int32} {V : Nat → Int32} {O : Nat → Int64} {Q : jO → List jC → Prop} {q r : Nat} {d : Int32} (hr : V 3 = nI r) (hr3 : r < 300) (hq : q < 320) (hQ : Q (.inl (some (.int (nI r)))) (hp (cAddF A q r d) (va_up V 3 (nI (r + 1))) O)) : GO l E 12 0 [some (.ref 11), some (.int (nI q)), some (.int d), some (.int 0), none] [] (hp A V O) 0 0 Q := by
  refine R_aload z12_0 rfl ?_
  refine R_get z12_1 (k := 1) (f := 7) (by decide +kernel) rfl rfl ?_
  refine R_top (y := nI r) (hr) ?_
  refine R_istore z12_4 (loc' := [some (.ref 11), some (.int (nI q)), some (.int d), some (.int 0), some (.int (nI r))]) rfl rfl ?_
  refine R_aload z12_6 rfl ?_
  refine R_dup z12_7 ?_
  refine R_get z12_8 (k := 1) (f := 7) (by decide +kernel) rfl rfl ?_
  refine R_iconst z12_11 (v := 1) (by decide) ?_
  refine R_iadd z12_12 ?_
  refine R_top (y := nI (r + 1)) (by rw [hr, nI_1]) ?_
  refine R_puti z12_13 (k := 1) (f := 7) (h' := hp A (va_up V 3 (nI (r + 1))) O) (by decide +kernel) (by decide +kernel) rfl (Nat.le_of_ble_eq_true rfl) rfl ?_
  refine R_aload z12_16 rfl ?_
  refine R_get z12_17 (k := 1) (f := 0) (by decide +kernel) rfl rfl ?_
  refine R_iload z12_20 rfl ?_
  refine R_iload z12_22 rfl ?_
  refine R_ist z12_23 (n := 300) (f := A 12) (h' := hp (va_up A 12 (upd (A 12) r d)) (va_up V 3 (nI (r + 1))) O) rfl (nin hr3 (by decide)) (by rw [ncl (by omega)]; rfl) ?_
  refine R_aload z12_24 rfl ?_
  refine R_get z12_25 (k := 1) (f := 1) (by decide +kernel) rfl rfl ?_
  refine R_iload z12_28 rfl ?_
  refine R_aload z12_30 rfl ?_
  refine R_get z12_31 (k := 1) (f := 3) (by decide +kernel) rfl rfl ?_
  refine R_iload z12_34 rfl ?_
  refine R_ild z12_35 (n := 320) (f := (va_up A 12 (upd (A 12) r d)) 15) (v := (A 15 q)) rfl (nin hq (by decide)) (by rw [ncl (by omega)]; rfl) ?_
  refine R_ist z12_36 (n := 300) (f := (va_up A 12 (upd (A 12) r d)) 13) (h' := hp (va_up (va_up A 12 (upd (A 12) r d)) 13 (upd (A 13) r (A 15 q))) (va_up V 3 (nI (r + 1))) O) rfl (nin hr3 (by decide)) (by rw [ncl (by omega)]; rfl) ?_
  refine R_aload z12_37 rfl ?_
  refine R_get z12_38 (k := 1) (f := 4) (by decide +kernel) rfl rfl ?_
  refine R_iload z12_41 rfl ?_
  refine R_iload z12_42 rfl ?_
  refine R_ist z12_43 (n := 320) (f := (va_up (va_up A 12 (upd (A 12) r d)) 13 (upd (A 13) r (A 15 q))) 16) (h' := hp (cAdd0 A q r d) (va_up V 3 (nI (r + 1))) O) rfl (nin hq (by decide)) (by rw [ncl (by omega)]; rfl) ?_
  refine R_iload z12_44 rfl ?_
  refine R_if z12_45 (tn := 76) rfl (fun _ => ?_) (fun q => absurd (show (0 : Int32) = 0 by decide) q)
  refine R_aload z12_76 rfl ?_
  refine R_get z12_77 (k := 1) (f := 5) (by decide +kernel) rfl rfl ?_
  refine R_iload z12_80 rfl ?_
  refine R_dup2 z12_81 ?_
  refine R_ild z12_82 (n := 320) (f := (cAdd0 A q r d) 17) (v := (A 17 q)) rfl (nin hq (by decide)) (by rw [ncl (by omega)]; rfl) ?_
  refine R_iconst z12_83 (v := 1) (by decide) ?_
  refine R_iadd z12_84 ?_
  refine R_ist z12_85 (n := 320) (f := (cAdd0 A q r d) 17) (h' := hp (cAddF A q r d) (va_up V 3 (nI (r + 1))) O) rfl (nin hq (by decide)) (by rw [ncl (by omega)]; rfl) ?_
  refine R_iload z12_86 rfl ?_
  exact R_iret z12_88 (Or.inl (by decide +kernel)) ⟨Nat.zero_le _, Nat.zero_le _⟩ (hQ)
theorem s51p {l : Launch} {E : jEnv} {A : Nat → Nat → Int32} {V : Nat → Int32} {O : Nat → Int64} {Q : jO → List jC → Prop} {p c r : Nat} (hr : V 3 = nI r) (hr3 : r < 300) (hp2 : p < 20) (hc : c < 16) (hQ : Q (.inl (some (.int (nI r)))) (hp (cAddP (cNote A c) (16 * p + c) r (V 0)) (va_up (va_up V 3 (nI (r + 1))) 4 (V 4 + 1)) O)) : GO l E 51 0 [some (.ref 0), some (.int (nI p)), some (.int (nI c)), some (.int 1)] [] (hp A V O) 0 0 Q := by
  refine R_aload z51_0 rfl ?_
  refine R_get z51_1 (k := 3) (f := 0) (by decide +kernel) rfl rfl ?_
  refine R_iload z51_4 rfl ?_
  refine R_cv z51_5 (k := 8) (by decide +kernel) rfl rfl (by decide +kernel) (Nat.le_of_ble_eq_true (by rfl)) rfl ⟨rfl, trivial⟩ ?_
  refine s8 hc (jBk_ret rfl ⟨rfl, rfl⟩ ?_)
  refine R_aload z51_8 rfl ?_
  refine R_get z51_9 (k := 3) (f := 1) (by decide +kernel) rfl rfl ?_
  refine R_iload z51_12 rfl ?_
  refine R_iload z51_13 rfl ?_
  refine R_cs z51_14 (k := 48) (kind := 1) (by decide +kernel) (by decide) rfl rfl (by decide +kernel) (Nat.le_of_ble_eq_true (by rfl)) rfl ?_
  refine s48 (jBk_ret rfl ⟨rfl, rfl⟩ ?_)
  refine R_top (y := nI (16 * p + c)) (npair p c) ?_
  refine R_aload z51_17 rfl ?_
  refine R_get z51_18 (k := 3) (f := 3) (by decide +kernel) rfl rfl ?_
  refine R_iload z51_21 rfl ?_
  refine R_cv z51_22 (k := 12) (by decide +kernel) rfl rfl (by decide +kernel) (Nat.le_of_ble_eq_true (by rfl)) rfl ⟨rfl, trivial⟩ ?_
  refine s12p hr hr3 (by omega) (jBk_ret rfl ⟨rfl, rfl⟩ ?_)
  exact R_iret z51_25 (Or.inl (by decide +kernel)) ⟨Nat.zero_le _, Nat.zero_le _⟩ (hQ)
theorem s51f {l : Launch} {E : jEnv} {A : Nat → Nat → Int32} {V : Nat → Int32} {O : Nat → Int64} {Q : jO → List jC → Prop} {p c r : Nat} (hr : V 3 = nI r) (hr3 : r < 300) (hp2 : p < 20) (hc : c < 16) (hQ : Q (.inl (some (.int (nI r)))) (hp (cAddF (cNote A c) (16 * p + c) r (V 0)) (va_up V 3 (nI (r + 1))) O)) : GO l E 51 0 [some (.ref 0), some (.int (nI p)), some (.int (nI c)), some (.int 0)] [] (hp A V O) 0 0 Q := by
  refine R_aload z51_0 rfl ?_
  refine R_get z51_1 (k := 3) (f := 0) (by decide +kernel) rfl rfl ?_
  refine R_iload z51_4 rfl ?_
  refine R_cv z51_5 (k := 8) (by decide +kernel) rfl rfl (by decide +kernel) (Nat.le_of_ble_eq_true (by rfl)) rfl ⟨rfl, trivial⟩ ?_
  refine s8 hc (jBk_ret rfl ⟨rfl, rfl⟩ ?_)
  refine R_aload z51_8 rfl ?_
  refine R_get z51_9 (k := 3) (f := 1) (by decide +kernel) rfl rfl ?_
  refine R_iload z51_12 rfl ?_
  refine R_iload z51_13 rfl ?_
  refine R_cs z51_14 (k := 48) (kind := 1) (by decide +kernel) (by decide) rfl rfl (by decide +kernel) (Nat.le_of_ble_eq_true (by rfl)) rfl ?_
  refine s48 (jBk_ret rfl ⟨rfl, rfl⟩ ?_)
  refine R_top (y := nI (16 * p + c)) (npair p c) ?_
  refine R_aload z51_17 rfl ?_
  refine R_get z51_18 (k := 3) (f := 3) (by decide +kernel) rfl rfl ?_
  refine R_iload z51_21 rfl ?_
  refine R_cv z51_22 (k := 12) (by decide +kernel) rfl rfl (by decide +kernel) (Nat.le_of_ble_eq_true (by rfl)) rfl ⟨rfl, trivial⟩ ?_
  refine s12f hr hr3 (by omega) (jBk_ret rfl ⟨rfl, rfl⟩ ?_)
  exact R_iret z51_25 (Or.inl (by decide +kernel)) ⟨Nat.zero_le _, Nat.zero_le _⟩ (hQ)
def cUse (A : Nat → Nat → Int32) (q k : Nat) (d cap : Int32) : Nat → Nat → Int32 := if ¬ A 18 q = d ∧ ¬ cap ≤ A 14 k then va_up (va_up A 14 (upd (A 14) k (A 14 k + 1))) 18 (upd (A 18) q d) else va_up A 18 (upd (A 18) q d)
theorem s13 {l : Launch} {E : jEnv} {A : Nat → Nat → Int32} {V : Nat → Int32} {O : Nat → Int64} {Q : jO → List jC → Prop} {q k : Nat} {d cap : Int32} (hq : q < 320) (hk : k < 300) (hx : A 15 q = nI k) (hQ : Q (.inl (some (.int (cUse A q k d cap 14 k)))) (hp (cUse A q k d cap) V O)) : GO l E 13 0 [some (.ref 11), some (.int (nI q)), some (.int d), some (.int cap), none] [] (hp A V O) 0 0 Q := by
  refine R_aload z13_0 rfl ?_
  refine R_get z13_1 (k := 1) (f := 3) (by decide +kernel) rfl rfl ?_
  refine R_iload z13_4 rfl ?_
  refine R_ild z13_5 (n := 320) (f := A 15) (v := (nI k)) rfl (nin hq (by decide)) (by rw [ncl (by omega)]; exact hx) ?_
  refine R_istore z13_6 (loc' := [some (.ref 11), some (.int (nI q)), some (.int d), some (.int cap), some (.int (nI k))]) rfl rfl ?_
  refine R_iload z13_8 rfl ?_
  refine R_iconst z13_10 (v := (-1)) (by decide) ?_
  refine R_icmp z13_11 (tn := 16) rfl (fun (h11 : ¬ ((nI k) : Int32) = (-1)) => ?_) (fun q => absurd (nm1 (by omega)) q)
  refine R_aload z13_16 rfl ?_
  refine R_get z13_17 (k := 1) (f := 6) (by decide +kernel) rfl rfl ?_
  refine R_iload z13_20 rfl ?_
  refine R_ild z13_21 (n := 320) (f := A 18) (v := (A 18 q)) rfl (nin hq (by decide)) (by rw [ncl (by omega)]) ?_
  refine R_iload z13_22 rfl ?_
  refine R_icmp z13_23 (tn := 48) rfl (fun (h23 : ((A 18 q) : Int32) = d) => ?_) (fun (h23 : ¬ ((A 18 q) : Int32) = d) => ?_)
  · refine R_aload z13_48 rfl ?_
    refine R_get z13_49 (k := 1) (f := 6) (by decide +kernel) rfl rfl ?_
    refine R_iload z13_52 rfl ?_
    refine R_iload z13_53 rfl ?_
    refine R_ist z13_54 (n := 320) (f := A 18) (h' := hp (va_up A 18 (upd (A 18) q d)) V O) rfl (nin hq (by decide)) (by rw [ncl (by omega)]; rfl) ?_
    refine R_aload z13_55 rfl ?_
    refine R_get z13_56 (k := 1) (f := 2) (by decide +kernel) rfl rfl ?_
    refine R_iload z13_59 rfl ?_
    refine R_ild z13_61 (n := 300) (f := (va_up A 18 (upd (A 18) q d)) 14) (v := ((va_up A 18 (upd (A 18) q d)) 14 k)) rfl (nin hk (by decide)) (by rw [ncl (by omega)]) ?_
    exact R_iret z13_62 (Or.inl (by decide +kernel)) ⟨Nat.zero_le _, Nat.zero_le _⟩ (by have e : cUse A q k d cap = _ := if_neg (fun z => z.1 h23); rw [e] at hQ; exact hQ)
  · refine R_aload z13_26 rfl ?_
    refine R_get z13_27 (k := 1) (f := 2) (by decide +kernel) rfl rfl ?_
    refine R_iload z13_30 rfl ?_
    refine R_ild z13_32 (n := 300) (f := A 14) (v := (A 14 k)) rfl (nin hk (by decide)) (by rw [ncl (by omega)]) ?_
    refine R_iload z13_33 rfl ?_
    refine R_icmp z13_34 (tn := 48) rfl (fun (h34 : (cap : Int32) ≤ (A 14 k)) => ?_) (fun (h34 : ¬ (cap : Int32) ≤ (A 14 k)) => ?_)
    · refine R_aload z13_48 rfl ?_
      refine R_get z13_49 (k := 1) (f := 6) (by decide +kernel) rfl rfl ?_
      refine R_iload z13_52 rfl ?_
      refine R_iload z13_53 rfl ?_
      refine R_ist z13_54 (n := 320) (f := A 18) (h' := hp (va_up A 18 (upd (A 18) q d)) V O) rfl (nin hq (by decide)) (by rw [ncl (by omega)]; rfl) ?_
      refine R_aload z13_55 rfl ?_
      refine R_get z13_56 (k := 1) (f := 2) (by decide +kernel) rfl rfl ?_
      refine R_iload z13_59 rfl ?_
      refine R_ild z13_61 (n := 300) (f := (va_up A 18 (upd (A 18) q d)) 14) (v := ((va_up A 18 (upd (A 18) q d)) 14 k)) rfl (nin hk (by decide)) (by rw [ncl (by omega)]) ?_
      exact R_iret z13_62 (Or.inl (by decide +kernel)) ⟨Nat.zero_le _, Nat.zero_le _⟩ (by have e : cUse A q k d cap = _ := if_neg (fun z => z.2 h34); rw [e] at hQ; exact hQ)
    · refine R_aload z13_37 rfl ?_
      refine R_get z13_38 (k := 1) (f := 2) (by decide +kernel) rfl rfl ?_
      refine R_iload z13_41 rfl ?_
      refine R_dup2 z13_43 ?_
      refine R_ild z13_44 (n := 300) (f := A 14) (v := (A 14 k)) rfl (nin hk (by decide)) (by rw [ncl (by omega)]) ?_
      refine R_iconst z13_45 (v := 1) (by decide) ?_
      refine R_iadd z13_46 ?_
      refine R_ist z13_47 (n := 300) (f := A 14) (h' := hp (va_up A 14 (upd (A 14) k (A 14 k + 1))) V O) rfl (nin hk (by decide)) (by rw [ncl (by omega)]; rfl) ?_
      refine R_aload z13_48 rfl ?_
      refine R_get z13_49 (k := 1) (f := 6) (by decide +kernel) rfl rfl ?_
      refine R_iload z13_52 rfl ?_
      refine R_iload z13_53 rfl ?_
      refine R_ist z13_54 (n := 320) (f := (va_up A 14 (upd (A 14) k (A 14 k + 1))) 18) (h' := hp (va_up (va_up A 14 (upd (A 14) k (A 14 k + 1))) 18 (upd (A 18) q d)) V O) rfl (nin hq (by decide)) (by rw [ncl (by omega)]; rfl) ?_
      refine R_aload z13_55 rfl ?_
      refine R_get z13_56 (k := 1) (f := 2) (by decide +kernel) rfl rfl ?_
      refine R_iload z13_59 rfl ?_
      refine R_ild z13_61 (n := 300) (f := (va_up (va_up A 14 (upd (A 14) k (A 14 k + 1))) 18 (upd (A 18) q d)) 14) (v := ((va_up (va_up A 14 (upd (A 14) k (A 14 k + 1))) 18 (upd (A 18) q d)) 14 k)) rfl (nin hk (by decide)) (by rw [ncl (by omega)]) ?_
      exact R_iret z13_62 (Or.inl (by decide +kernel)) ⟨Nat.zero_le _, Nat.zero_le _⟩ (by have e : cUse A q k d cap = _ := if_pos ⟨h23, h34⟩; rw [e] at hQ; exact hQ)
/-- down the chain of passes, at most f steps: the first on a day up to d -/
def cUp (A : Nat → Nat → Int32) (d : Int32) : Nat → Int32 → Int32
  | 0, _ => -1
  | f + 1, x => if x = -1 then -1 else if d < A 12 x.toNatClampNeg then cUp A d f (A 13 x.toNatClampNeg) else x
theorem jpass_next {A : Nat → Nat → Int32} {V : Nat → Int32} {n r : Nat} (hW : cWf A V n r) {x : Int32} (hx : jpass x r) (h : ¬ x = -1) : jpass (A 13 x.toNatClampNeg) r := by
  rcases hx with hx | ⟨k, hk, rfl⟩
  · exact absurd hx h
  · have hr := hW.2.2.2.1
    rw [ncl (by omega)]
    rcases hW.2.2.2.2.2 k hk with e | ⟨j, hj, e⟩
    · exact Or.inl e
    · exact Or.inr ⟨j, by omega, e⟩
theorem s14_lp {l : Launch} {E : jEnv} {A : Nat → Nat → Int32} {V : Nat → Int32} {O : Nat → Int64} {Q : jO → List jC → Prop} {n r : Nat} {y d0 : Int32} (hW : cWf A V n r) : ∀ (d k : Nat) (x : Int32), k + d = r → jpass x r → Q (.inl (some (.int (cUp A d0 d x)))) (hp A V O) → GO l E 14 10 [some (.ref 11), some (.int y), some (.int d0), some (.int x), some (.int (nI k))] [] (hp A V O) 0 0 Q := by
  intro d
  induction d with
  | zero =>
    intro k x hk hx hQ
    have hn16 := hW.2.1
    have hr300 := hW.2.2.2.1
    refine R_iload z14_10 rfl ?_
    refine R_aload z14_12 rfl ?_
    refine R_get z14_13 (k := 1) (f := 7) (by decide +kernel) rfl rfl ?_
    refine R_icmp z14_16 (tn := 49) rfl (fun (h16 : ((V 3) : Int32) ≤ (nI k)) => ?_) (fun q => absurd ((show V 3 ≤ nI k by rw [hW.2.2.1, nge (by omega) (by omega)]; omega)) q)
    refine R_iconst z14_49 (v := (-1)) (by decide) ?_
    exact R_iret z14_50 (Or.inl (by decide +kernel)) ⟨Nat.zero_le _, Nat.zero_le _⟩ (hQ)
  | succ d ih =>
    intro k x hk hx hQ
    have hn16 := hW.2.1
    have hr300 := hW.2.2.2.1
    refine R_iload z14_10 rfl ?_
    refine R_aload z14_12 rfl ?_
    refine R_get z14_13 (k := 1) (f := 7) (by decide +kernel) rfl rfl ?_
    refine R_icmp z14_16 (tn := 49) rfl (fun q => absurd q ((show ¬ V 3 ≤ nI k by rw [hW.2.2.1, nge (by omega) (by omega)]; omega))) (fun (h16 : ¬ ((V 3) : Int32) ≤ (nI k)) => ?_)
    refine R_iload z14_19 rfl ?_
    refine R_iconst z14_20 (v := (-1)) (by decide) ?_
    refine R_icmp z14_21 (tn := 49) rfl (fun (h21 : (x : Int32) = (-1)) => ?_) (fun (h21 : ¬ (x : Int32) = (-1)) => ?_)
    · refine R_iconst z14_49 (v := (-1)) (by decide) ?_
      exact R_iret z14_50 (Or.inl (by decide +kernel)) ⟨Nat.zero_le _, Nat.zero_le _⟩ (by rw [cUp, if_pos h21] at hQ; exact hQ)
    · refine R_aload z14_24 rfl ?_
      refine R_get z14_25 (k := 1) (f := 0) (by decide +kernel) rfl rfl ?_
      refine R_iload z14_28 rfl ?_
      refine R_ild z14_29 (n := 300) (f := A 12) (v := (A 12 (x).toNatClampNeg)) rfl (jpass_in hx h21 hr300 (by decide)) (rfl) ?_
      refine R_iload z14_30 rfl ?_
      refine R_icmp z14_31 (tn := 36) rfl (fun (h31 : (d0 : Int32) < (A 12 (x).toNatClampNeg)) => ?_) (fun (h31 : ¬ (d0 : Int32) < (A 12 (x).toNatClampNeg)) => ?_)
      · refine R_aload z14_36 rfl ?_
        refine R_get z14_37 (k := 1) (f := 1) (by decide +kernel) rfl rfl ?_
        refine R_iload z14_40 rfl ?_
        refine R_ild z14_41 (n := 300) (f := A 13) (v := (A 13 (x).toNatClampNeg)) rfl (jpass_in hx h21 hr300 (by decide)) (rfl) ?_
        refine R_istore z14_42 (loc' := [some (.ref 11), some (.int y), some (.int d0), some (.int (A 13 (x).toNatClampNeg)), some (.int (nI k))]) rfl rfl ?_
        refine R_iinc z14_43 (v := 1) (loc' := [some (.ref 11), some (.int y), some (.int d0), some (.int (A 13 (x).toNatClampNeg)), some (.int (nI (k + 1)))]) rfl rfl (by decide) (by rw [nI_1]; rfl) ?_
        refine R_goto z14_46 (tn := 10) rfl ?_
        rw [cUp, if_neg h21, if_pos (show d0 < A 12 x.toNatClampNeg from h31)] at hQ
        exact ih (k + 1) _ (by omega) (jpass_next hW hx h21) hQ
      · refine R_iload z14_34 rfl ?_
        exact R_iret z14_35 (Or.inl (by decide +kernel)) ⟨Nat.zero_le _, Nat.zero_le _⟩ (by rw [cUp, if_neg h21, if_neg h31] at hQ; exact hQ)
theorem s14 {l : Launch} {E : jEnv} {A : Nat → Nat → Int32} {V : Nat → Int32} {O : Nat → Int64} {Q : jO → List jC → Prop} {q n r : Nat} {d0 : Int32} (hW : cWf A V n r) (hq : q < 320) (hQ : Q (.inl (some (.int (cUp A d0 r (A 15 q))))) (hp A V O)) : GO l E 14 0 [some (.ref 11), some (.int (nI q)), some (.int d0), none, none] [] (hp A V O) 0 0 Q := by
  refine R_aload z14_0 rfl ?_
  refine R_get z14_1 (k := 1) (f := 3) (by decide +kernel) rfl rfl ?_
  refine R_iload z14_4 rfl ?_
  refine R_ild z14_5 (n := 320) (f := A 15) (v := (A 15 q)) rfl (nin hq (by decide)) (by rw [ncl (by omega)]) ?_
  refine R_istore z14_6 (loc' := [some (.ref 11), some (.int (nI q)), some (.int d0), some (.int (A 15 q)), none]) rfl rfl ?_
  refine R_iconst z14_7 (v := 0) (by decide) ?_
  refine R_istore z14_8 (loc' := [some (.ref 11), some (.int (nI q)), some (.int d0), some (.int (A 15 q)), some (.int 0)]) rfl rfl ?_
  exact s14_lp hW r 0 _ (by omega) (hW.2.2.2.2.1 q hq) hQ

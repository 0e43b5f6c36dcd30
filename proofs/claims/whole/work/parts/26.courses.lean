/-- the first k places are v -/
def jfil (f : Nat → Int32) (v : Int32) (k : Nat) : Nat → Int32 := fun j => if j < k then v else f j
theorem jfil_0 {f : Nat → Int32} {v : Int32} : jfil f v 0 = f := by funext j; simp [jfil]
theorem jfil_s {f : Nat → Int32} {v : Int32} {k : Nat} : upd (jfil f v k) k v = jfil f v (k + 1) := by
  funext j
  unfold upd jfil
  by_cases h : j = k
  · subst h; rw [if_pos rfl, if_pos (by omega)]
  · rw [if_neg h]
    by_cases h2 : j < k
    · rw [if_pos h2, if_pos (by omega)]
    · rw [if_neg h2, if_neg (by omega)]
theorem s0_lp {l : Launch} {E : jEnv} {h : List jC} {a n : Nat} {v : Int32} {f : Nat → Int32} {Q : jO → List jC → Prop} (ha : a < h.length) (hn : n ≤ 15000) (hQ : Q (.inl none) (h.set a (.inl (0, n, .inl (jfil f v n))))) : ∀ (d k : Nat), k + d = n → GO l E 0 5 [some (.ref a), some (.int v), some (.int (nI k)), some (.int (nI n))] [] (h.set a (.inl (0, n, .inl (jfil f v k)))) 0 0 Q := by
  intro d
  induction d with
  | zero =>
    intro k hk
    refine R_iload z0_5 rfl ?_
    refine R_iload z0_6 rfl ?_
    refine R_icmp z0_7 (tn := 20) rfl (fun _ => ?_) (fun q => absurd (show nI n ≤ nI k by rw [nge (by omega) (by omega)]; omega) q)
    refine R_vret z0_20 ⟨Nat.zero_le _, Nat.zero_le _⟩ ?_
    rw [show k = n by omega]; exact hQ
  | succ d ih =>
    intro k hk
    refine R_iload z0_5 rfl ?_
    refine R_iload z0_6 rfl ?_
    refine R_icmp z0_7 (tn := 20) rfl (fun q => absurd q (show ¬ nI n ≤ nI k by rw [nge (by omega) (by omega)]; omega)) (fun _ => ?_)
    refine R_aload z0_10 rfl ?_
    refine R_iload z0_11 rfl ?_
    refine R_iload z0_12 rfl ?_
    refine R_ist z0_13 (n := n) (f := jfil f v k) (h' := h.set a (.inl (0, n, .inl (jfil f v (k + 1))))) (List.getElem?_set_self ha) (nin (by omega) hn) (by rw [ncl (by omega), jfil_s, List.set_set]) ?_
    refine R_iinc z0_14 (v := 1) (loc' := [some (.ref a), some (.int v), some (.int (nI (k + 1))), some (.int (nI n))]) rfl rfl (by decide) (by rw [nI_1]; rfl) ?_
    refine R_goto z0_17 (tn := 5) rfl ?_
    exact ih (k + 1) (by omega)
theorem s0 {l : Launch} {E : jEnv} {h : List jC} {a n : Nat} {v : Int32} {f : Nat → Int32} {Q : jO → List jC → Prop} (ho : h[a]? = some (.inl (0, n, .inl f))) (hn : n ≤ 15000) (hQ : Q (.inl none) (h.set a (.inl (0, n, .inl (jfil f v n))))) : GO l E 0 0 [some (.ref a), some (.int v), none, none] [] h 0 0 Q := by
  have ha : a < h.length := (List.getElem?_eq_some_iff.mp ho).1
  have e : h = h.set a (.inl (0, n, .inl (jfil f v 0))) := by
    rw [jfil_0]
    refine List.ext_getElem? fun j => ?_
    by_cases hj : a = j
    · subst hj; rw [List.getElem?_set_self ha, ho]
    · rw [List.getElem?_set_ne hj]
  refine R_iconst z0_0 (v := 0) (by decide) ?_
  refine R_istore z0_1 (loc' := [some (.ref a), some (.int v), some (.int (nI 0)), none]) rfl rfl ?_
  refine R_aload z0_2 rfl ?_
  refine R_alen z0_3 (n := n) (f := f) (v := nI n) ho rfl ?_
  refine R_istore z0_4 (loc' := [some (.ref a), some (.int v), some (.int (nI 0)), some (.int (nI n))]) rfl rfl ?_
  have G := s0_lp (l := l) (E := E) ha hn hQ n 0 (by omega)
  rw [← e] at G
  exact G
theorem s9 {l : Launch} {E : jEnv} {A : Nat → Nat → Int32} {V : Nat → Int32} {O : Nat → Int64} {Q : jO → List jC → Prop} (hQ : Q (.inl none) (hp (va_up A 9 (jfil (A 9) 0 16)) V O)) : GO l E 9 0 [some (.ref 1)] [] (hp A V O) 0 0 Q := by
  refine R_aload z9_0 rfl ?_
  refine R_get z9_1 (k := 0) (f := 7) (by decide +kernel) rfl rfl ?_
  refine R_iconst z9_4 (v := 0) (by decide) ?_
  refine R_cs z9_5 (k := 0) (kind := 1) (by decide +kernel) (by decide) rfl rfl (by decide +kernel) (Nat.le_of_ble_eq_true (by rfl)) rfl ?_
  refine s0 (n := 16) rfl (by decide) (jBk_ret rfl ⟨rfl, rfl⟩ ?_)
  exact R_vret z9_8 ⟨Nat.zero_le _, Nat.zero_le _⟩ (hQ)
theorem s16 {l : Launch} {E : jEnv} {A : Nat → Nat → Int32} {V : Nat → Int32} {O : Nat → Int64} {Q : jO → List jC → Prop} {n : Int32} (hQ : Q (.inl none) (hp (va_up (va_up A 21 (jfil (A 21) (-1) 12)) 22 (jfil (A 22) (-1) 20)) (va_up V 5 n) O)) : GO l E 16 0 [some (.ref 19), some (.int n)] [] (hp A V O) 0 0 Q := by
  refine R_aload z16_0 rfl ?_
  refine R_iload z16_1 rfl ?_
  refine R_puti z16_2 (k := 2) (f := 5) (h' := hp A (va_up V 5 n) O) (by decide +kernel) (by decide +kernel) rfl (Nat.le_of_ble_eq_true rfl) rfl ?_
  refine R_aload z16_5 rfl ?_
  refine R_get z16_6 (k := 2) (f := 1) (by decide +kernel) rfl rfl ?_
  refine R_iconst z16_9 (v := (-1)) (by decide) ?_
  refine R_cs z16_10 (k := 0) (kind := 1) (by decide +kernel) (by decide) rfl rfl (by decide +kernel) (Nat.le_of_ble_eq_true (by rfl)) rfl ?_
  refine s0 (n := 12) rfl (by decide) (jBk_ret rfl ⟨rfl, rfl⟩ ?_)
  refine R_aload z16_13 rfl ?_
  refine R_get z16_14 (k := 2) (f := 2) (by decide +kernel) rfl rfl ?_
  refine R_iconst z16_17 (v := (-1)) (by decide) ?_
  refine R_cs z16_18 (k := 0) (kind := 1) (by decide +kernel) (by decide) rfl rfl (by decide +kernel) (Nat.le_of_ble_eq_true (by rfl)) rfl ?_
  refine s0 (n := 20) rfl (by decide) (jBk_ret rfl ⟨rfl, rfl⟩ ?_)
  exact R_vret z16_21 ⟨Nat.zero_le _, Nat.zero_le _⟩ (hQ)
def cCrs (A : Nat → Nat → Int32) (n : Nat) (t p c : Int32) : Nat → Nat → Int32 := va_up (va_up (va_up (va_up A 2 (upd (A 2) n t)) 3 (upd (A 3) n p)) 4 (upd (A 4) n c)) 5 (upd (A 5) n 3)
theorem s5 {l : Launch} {E : jEnv} {A : Nat → Nat → Int32} {V : Nat → Int32} {O : Nat → Int64} {Q : jO → List jC → Prop} {n : Nat} {t p c : Int32} (hn : V 2 = nI n) (hn2 : n < 16) (hQ : Q (.inl (some (.int (nI n)))) (hp (cCrs A n t p c) (va_up V 2 (nI (n + 1))) O)) : GO l E 5 0 [some (.ref 1), some (.int t), some (.int p), some (.int c), none] [] (hp A V O) 0 0 Q := by
  refine R_aload z5_0 rfl ?_
  refine R_get z5_1 (k := 0) (f := 9) (by decide +kernel) rfl rfl ?_
  refine R_top (y := nI n) (hn) ?_
  refine R_istore z5_4 (loc' := [some (.ref 1), some (.int t), some (.int p), some (.int c), some (.int (nI n))]) rfl rfl ?_
  refine R_aload z5_6 rfl ?_
  refine R_get z5_7 (k := 0) (f := 0) (by decide +kernel) rfl rfl ?_
  refine R_iload z5_10 rfl ?_
  refine R_iload z5_12 rfl ?_
  refine R_ist z5_13 (n := 16) (f := A 2) (h' := hp (va_up A 2 (upd (A 2) n t)) V O) rfl (nin hn2 (by decide)) (by rw [ncl (by omega)]; rfl) ?_
  refine R_aload z5_14 rfl ?_
  refine R_get z5_15 (k := 0) (f := 1) (by decide +kernel) rfl rfl ?_
  refine R_iload z5_18 rfl ?_
  refine R_iload z5_20 rfl ?_
  refine R_ist z5_21 (n := 16) (f := (va_up A 2 (upd (A 2) n t)) 3) (h' := hp (va_up (va_up A 2 (upd (A 2) n t)) 3 (upd (A 3) n p)) V O) rfl (nin hn2 (by decide)) (by rw [ncl (by omega)]; rfl) ?_
  refine R_aload z5_22 rfl ?_
  refine R_get z5_23 (k := 0) (f := 2) (by decide +kernel) rfl rfl ?_
  refine R_iload z5_26 rfl ?_
  refine R_iload z5_28 rfl ?_
  refine R_ist z5_29 (n := 16) (f := (va_up (va_up A 2 (upd (A 2) n t)) 3 (upd (A 3) n p)) 4) (h' := hp (va_up (va_up (va_up A 2 (upd (A 2) n t)) 3 (upd (A 3) n p)) 4 (upd (A 4) n c)) V O) rfl (nin hn2 (by decide)) (by rw [ncl (by omega)]; rfl) ?_
  refine R_aload z5_30 rfl ?_
  refine R_get z5_31 (k := 0) (f := 3) (by decide +kernel) rfl rfl ?_
  refine R_iload z5_34 rfl ?_
  refine R_iconst z5_36 (v := 3) (by decide) ?_
  refine R_ist z5_37 (n := 16) (f := (va_up (va_up (va_up A 2 (upd (A 2) n t)) 3 (upd (A 3) n p)) 4 (upd (A 4) n c)) 5) (h' := hp (cCrs A n t p c) V O) rfl (nin hn2 (by decide)) (by rw [ncl (by omega)]; rfl) ?_
  refine R_aload z5_38 rfl ?_
  refine R_dup z5_39 ?_
  refine R_get z5_40 (k := 0) (f := 9) (by decide +kernel) rfl rfl ?_
  refine R_iconst z5_43 (v := 1) (by decide) ?_
  refine R_iadd z5_44 ?_
  refine R_top (y := nI (n + 1)) (by rw [hn, nI_1]) ?_
  refine R_puti z5_45 (k := 0) (f := 9) (h' := hp (cCrs A n t p c) (va_up V 2 (nI (n + 1))) O) (by decide +kernel) (by decide +kernel) rfl (Nat.le_of_ble_eq_true rfl) rfl ?_
  refine R_iload z5_48 rfl ?_
  exact R_iret z5_50 (Or.inl (by decide +kernel)) ⟨Nat.zero_le _, Nat.zero_le _⟩ (hQ)
theorem s6 {l : Launch} {E : jEnv} {A : Nat → Nat → Int32} {V : Nat → Int32} {O : Nat → Int64} {Q : jO → List jC → Prop} {c o : Nat} (hc : c < 16) (ho : o < 16) (h1 : (c = o ∨ jbit (A 7 o) (nI c)) → Q (.inl (some (.int 1))) (hp A V O)) (h0 : ¬ (c = o ∨ jbit (A 7 o) (nI c)) → Q (.inl (some (.int 0))) (hp A V O)) : GO l E 6 0 [some (.ref 1), some (.int (nI c)), some (.int (nI o))] [] (hp A V O) 0 0 Q := by
  refine R_iload z6_0 rfl ?_
  refine R_iload z6_1 rfl ?_
  refine R_icmp z6_2 (tn := 18) rfl (fun (h2 : ((nI c) : Int32) = (nI o)) => ?_) (fun (h2 : ¬ ((nI c) : Int32) = (nI o)) => ?_)
  · refine R_iconst z6_18 (v := 1) (by decide) ?_
    refine R_goto z6_19 (tn := 23) rfl ?_
    exact R_iret z6_23 (Or.inr (by decide)) ⟨Nat.zero_le _, Nat.zero_le _⟩ (h1 (Or.inl ((nI_eq (by omega) (by omega)).mp h2)))
  · refine R_aload z6_5 rfl ?_
    refine R_get z6_6 (k := 0) (f := 5) (by decide +kernel) rfl rfl ?_
    refine R_iload z6_9 rfl ?_
    refine R_ild z6_10 (n := 16) (f := A 7) (v := (A 7 o)) rfl (nin ho (by decide)) (by rw [ncl (by omega)]) ?_
    refine R_iload z6_11 rfl ?_
    refine R_cs z6_12 (k := 49) (kind := 4) (by decide +kernel) (by decide) rfl rfl (by decide +kernel) (Nat.le_of_ble_eq_true (by rfl)) rfl ?_
    refine s49 (fun g => jBk_ret rfl ⟨rfl, rfl⟩ ?_) (fun g => jBk_ret rfl ⟨rfl, rfl⟩ ?_)
    · refine R_if z6_15 (tn := 22) rfl (fun q => absurd (show (1 : Int32) = 0 from q) (by decide)) (fun _ => ?_)
      refine R_iconst z6_18 (v := 1) (by decide) ?_
      refine R_goto z6_19 (tn := 23) rfl ?_
      exact R_iret z6_23 (Or.inr (by decide)) ⟨Nat.zero_le _, Nat.zero_le _⟩ (h1 (Or.inr g))
    · refine R_if z6_15 (tn := 22) rfl (fun _ => ?_) (fun q => absurd rfl q)
      refine R_iconst z6_22 (v := 0) (by decide) ?_
      exact R_iret z6_23 (Or.inr (by decide)) ⟨Nat.zero_le _, Nat.zero_le _⟩ (h0 (fun z => z.elim (fun e => h2 (by rw [e])) g))
def cBitO (x : Int32) (o : Nat) : Int32 := x ||| (1 : Int32) <<< (nI o &&& 31)
/-- what a course needs by way of others, with the new need laid in, for the first k courses -/
def cWay (A : Nat → Nat → Int32) (c o k : Nat) : Nat → Int32 := fun j => if j < k ∧ (j = c ∨ jbit (A 7 j) (nI c)) then A 7 j ||| cBitO (A 7 o) o else A 7 j
theorem cWay_0 {A : Nat → Nat → Int32} {c o : Nat} : cWay A c o 0 = A 7 := by funext j; simp [cWay]
theorem cWay_k {A : Nat → Nat → Int32} {c o k : Nat} : cWay A c o k k = A 7 k := by simp [cWay]
theorem cWay_n {A : Nat → Nat → Int32} {c o k : Nat} (h : ¬ (k = c ∨ jbit (A 7 k) (nI c))) : cWay A c o (k + 1) = cWay A c o k := by
  funext j
  unfold cWay
  by_cases hj : j = k
  · subst hj; rw [if_neg (fun z => h z.2), if_neg (fun z => h z.2)]
  · by_cases h2 : j < k ∧ (j = c ∨ jbit (A 7 j) (nI c))
    · rw [if_pos h2, if_pos ⟨by omega, h2.2⟩]
    · rw [if_neg h2, if_neg (fun z => h2 ⟨by omega, z.2⟩)]
theorem cWay_s {A : Nat → Nat → Int32} {c o k : Nat} (h : k = c ∨ jbit (A 7 k) (nI c)) : upd (cWay A c o k) k (A 7 k ||| cBitO (A 7 o) o) = cWay A c o (k + 1) := by
  funext j
  unfold upd cWay
  by_cases hj : j = k
  · subst hj; rw [if_pos rfl, if_pos ⟨by omega, h⟩]
  · rw [if_neg hj]
    by_cases h2 : j < k ∧ (j = c ∨ jbit (A 7 j) (nI c))
    · rw [if_pos h2, if_pos ⟨by omega, h2.2⟩]
    · rw [if_neg h2, if_neg (fun z => h2 ⟨by omega, z.2⟩)]
def cNeed0 (A : Nat → Nat → Int32) (c o : Nat) : Nat → Nat → Int32 := va_up A 6 (upd (A 6) c (A 6 c ||| (1 : Int32) <<< (nI o &&& 31)))
def cNeed (A : Nat → Nat → Int32) (c o k : Nat) : Nat → Nat → Int32 := va_up (cNeed0 A c o) 7 (cWay A c o k)
theorem s7_lp {l : Launch} {E : jEnv} {A : Nat → Nat → Int32} {V : Nat → Int32} {O : Nat → Int64} {Q : jO → List jC → Prop} {c o n : Nat} (hV : V 2 = nI n) (hn : n ≤ 16) (hc : c < 16) (ho : o < 16) (hQ : Q (.inl none) (hp (cNeed A c o n) V O)) : ∀ (d k : Nat), k + d = n →  GO l E 7 26 [some (.ref 1), some (.int (nI c)), some (.int (nI o)), some (.int (cBitO (A 7 o) o)), some (.int (nI k))] [] (hp (cNeed A c o k) V O) 0 0 Q := by
  intro d
  induction d with
  | zero =>
    intro k hk 
    refine R_iload z7_26 rfl ?_
    refine R_aload z7_28 rfl ?_
    refine R_get z7_29 (k := 0) (f := 9) (by decide +kernel) rfl rfl ?_
    refine R_icmp z7_32 (tn := 72) rfl (fun (h32 : ((V 2) : Int32) ≤ (nI k)) => ?_) (fun q => absurd ((show V 2 ≤ nI k by rw [hV, nge (by omega) (by omega)]; omega)) q)
    exact R_vret z7_72 ⟨Nat.zero_le _, Nat.zero_le _⟩ (by rw [show k = n by omega]; exact hQ)
  | succ d ih =>
    intro k hk 
    refine R_iload z7_26 rfl ?_
    refine R_aload z7_28 rfl ?_
    refine R_get z7_29 (k := 0) (f := 9) (by decide +kernel) rfl rfl ?_
    refine R_icmp z7_32 (tn := 72) rfl (fun q => absurd q ((show ¬ V 2 ≤ nI k by rw [hV, nge (by omega) (by omega)]; omega))) (fun (h32 : ¬ ((V 2) : Int32) ≤ (nI k)) => ?_)
    refine R_iload z7_35 rfl ?_
    refine R_iload z7_37 rfl ?_
    refine R_icmp z7_38 (tn := 55) rfl (fun (h38 : ((nI k) : Int32) = (nI c)) => ?_) (fun (h38 : ¬ ((nI k) : Int32) = (nI c)) => ?_)
    · refine R_aload z7_55 rfl ?_
      refine R_get z7_56 (k := 0) (f := 5) (by decide +kernel) rfl rfl ?_
      refine R_iload z7_59 rfl ?_
      refine R_dup2 z7_61 ?_
      refine R_ild z7_62 (n := 16) (f := (cNeed A c o k) 7) (v := (A 7 k)) rfl (nin (by omega) (by decide)) (by rw [ncl (by omega)]; exact cWay_k) ?_
      refine R_iload z7_63 rfl ?_
      refine R_ior z7_64 ?_
      refine R_ist z7_65 (n := 16) (f := (cNeed A c o k) 7) (h' := hp (cNeed A c o (k + 1)) V O) rfl (nin (by omega) (by decide)) (by rw [ncl (by omega)]; show (hp (cNeed A c o k) V O).set 7 (.inl (0, 16, .inl (upd (cWay A c o k) k (A 7 k ||| cBitO (A 7 o) o)))) = _; rw [cWay_s (Or.inl ((nI_eq (by omega) (by omega)).mp h38))]; rfl) ?_
      refine R_iinc z7_66 (v := 1) (loc' := [some (.ref 1), some (.int (nI c)), some (.int (nI o)), some (.int (cBitO (A 7 o) o)), some (.int (nI (k + 1)))]) rfl rfl (by decide) (by rw [nI_1]; rfl) ?_
      refine R_goto z7_69 (tn := 26) rfl ?_
      exact ih (k + 1) (by omega)
    · refine R_aload z7_41 rfl ?_
      refine R_get z7_42 (k := 0) (f := 5) (by decide +kernel) rfl rfl ?_
      refine R_iload z7_45 rfl ?_
      refine R_ild z7_47 (n := 16) (f := (cNeed A c o k) 7) (v := (A 7 k)) rfl (nin (by omega) (by decide)) (by rw [ncl (by omega)]; exact cWay_k) ?_
      refine R_iload z7_48 rfl ?_
      refine R_cs z7_49 (k := 49) (kind := 4) (by decide +kernel) (by decide) rfl rfl (by decide +kernel) (Nat.le_of_ble_eq_true (by rfl)) rfl ?_
      refine s49 (fun g => jBk_ret rfl ⟨rfl, rfl⟩ ?_) (fun g => jBk_ret rfl ⟨rfl, rfl⟩ ?_)
      · refine R_if z7_52 (tn := 66) rfl (fun q => absurd (show (1 : Int32) = 0 from q) (by decide)) (fun _ => ?_)
        refine R_aload z7_55 rfl ?_
        refine R_get z7_56 (k := 0) (f := 5) (by decide +kernel) rfl rfl ?_
        refine R_iload z7_59 rfl ?_
        refine R_dup2 z7_61 ?_
        refine R_ild z7_62 (n := 16) (f := (cNeed A c o k) 7) (v := (A 7 k)) rfl (nin (by omega) (by decide)) (by rw [ncl (by omega)]; exact cWay_k) ?_
        refine R_iload z7_63 rfl ?_
        refine R_ior z7_64 ?_
        refine R_ist z7_65 (n := 16) (f := (cNeed A c o k) 7) (h' := hp (cNeed A c o (k + 1)) V O) rfl (nin (by omega) (by decide)) (by rw [ncl (by omega)]; show (hp (cNeed A c o k) V O).set 7 (.inl (0, 16, .inl (upd (cWay A c o k) k (A 7 k ||| cBitO (A 7 o) o)))) = _; rw [cWay_s (Or.inr g)]; rfl) ?_
        refine R_iinc z7_66 (v := 1) (loc' := [some (.ref 1), some (.int (nI c)), some (.int (nI o)), some (.int (cBitO (A 7 o) o)), some (.int (nI (k + 1)))]) rfl rfl (by decide) (by rw [nI_1]; rfl) ?_
        refine R_goto z7_69 (tn := 26) rfl ?_
        exact ih (k + 1) (by omega)
      · refine R_if z7_52 (tn := 66) rfl (fun _ => ?_) (fun q => absurd rfl q)
        refine R_iinc z7_66 (v := 1) (loc' := [some (.ref 1), some (.int (nI c)), some (.int (nI o)), some (.int (cBitO (A 7 o) o)), some (.int (nI (k + 1)))]) rfl rfl (by decide) (by rw [nI_1]; rfl) ?_
        refine R_goto z7_69 (tn := 26) rfl ?_
        rw [cNeed, ← cWay_n (fun z => z.elim (fun e => h38 (by rw [e])) g)]
        exact ih (k + 1) (by omega)
theorem s7 {l : Launch} {E : jEnv} {A : Nat → Nat → Int32} {V : Nat → Int32} {O : Nat → Int64} {Q : jO → List jC → Prop} {c o n : Nat} (hV : V 2 = nI n) (hn : n ≤ 16) (hc : c < 16) (ho : o < 16) (hQ : Q (.inl none) (hp (cNeed A c o n) V O)) : GO l E 7 0 [some (.ref 1), some (.int (nI c)), some (.int (nI o)), none, none] [] (hp A V O) 0 0 Q := by
  refine R_aload z7_0 rfl ?_
  refine R_get z7_1 (k := 0) (f := 5) (by decide +kernel) rfl rfl ?_
  refine R_iload z7_4 rfl ?_
  refine R_ild z7_5 (n := 16) (f := A 7) (v := (A 7 o)) rfl (nin ho (by decide)) (by rw [ncl (by omega)]) ?_
  refine R_iconst z7_6 (v := 1) (by decide) ?_
  refine R_iload z7_7 rfl ?_
  refine R_ishl z7_8 ?_
  refine R_ior z7_9 ?_
  refine R_istore z7_10 (loc' := [some (.ref 1), some (.int (nI c)), some (.int (nI o)), some (.int ((A 7 o) ||| (1 <<< ((nI o) &&& 31)))), none]) rfl rfl ?_
  refine R_aload z7_11 rfl ?_
  refine R_get z7_12 (k := 0) (f := 4) (by decide +kernel) rfl rfl ?_
  refine R_iload z7_15 rfl ?_
  refine R_dup2 z7_16 ?_
  refine R_ild z7_17 (n := 16) (f := A 6) (v := (A 6 c)) rfl (nin hc (by decide)) (by rw [ncl (by omega)]) ?_
  refine R_iconst z7_18 (v := 1) (by decide) ?_
  refine R_iload z7_19 rfl ?_
  refine R_ishl z7_20 ?_
  refine R_ior z7_21 ?_
  refine R_ist z7_22 (n := 16) (f := A 6) (h' := hp (cNeed0 A c o) V O) rfl (nin hc (by decide)) (by rw [ncl (by omega)]; rfl) ?_
  refine R_iconst z7_23 (v := 0) (by decide) ?_
  refine R_istore z7_24 (loc' := [some (.ref 1), some (.int (nI c)), some (.int (nI o)), some (.int ((A 7 o) ||| (1 <<< ((nI o) &&& 31)))), some (.int 0)]) rfl rfl ?_
  have G := s7_lp (l := l) (E := E) (O := O) (A := A) hV hn hc ho hQ n 0 (by omega)
  unfold cNeed at G
  rw [cWay_0] at G
  exact G

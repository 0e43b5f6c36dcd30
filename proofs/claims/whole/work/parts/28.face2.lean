theorem R_tsw {l : Launch} {E : jEnv} {i pc nx : Nat} {loc : List (Option Value)} {st : List Value} {h : List jC} {c s : Nat} {Q : jO → List jC → Prop} {x : Int32} {d lo hi : Int} {ts : Array Int} (hz : jcd i pc = some (.tableswitch d lo hi ts, nx)) (k1 : ∀ (k : Nat) (t : Int), ts.toList[k]? = some t → x.toInt = lo + k → GO l E i t.toNat loc st h c s Q) (k2 : x.toInt < lo ∨ hi < x.toInt → GO l E i d.toNat loc st h c s Q) : GO l E i pc loc (.int x :: st) h c s Q := J_s hz ⟨k1, k2⟩
theorem s26 {l : Launch} {E : jEnv} {A : Nat → Nat → Int32} {V : Nat → Int32} {O : Nat → Int64} {Q : jO → List jC → Prop} {t p c : Int32} {n r : Nat} (hW : cWf A V n r) (hI : ¬ (jrg t 1 2000 ∧ jrg p 0 100 ∧ jrg c 0 50) → Q (.inr "java/lang/IndexOutOfBoundsException") (hp A V O)) (hU : (jrg t 1 2000 ∧ jrg p 0 100 ∧ jrg c 0 50) → ¬ n < 16 → Q (.inr "java/lang/UnsupportedOperationException") (hp A V O)) (hQ : (jrg t 1 2000 ∧ jrg p 0 100 ∧ jrg c 0 50) → n < 16 → Q (.inl (some (.int (nI n)))) (hp (cCrs A n t p c) (va_up V 2 (nI (n + 1))) O)) : GO l E 26 0 [some (.ref 0), some (.int t), some (.int p), some (.int c)] [] (hp A V O) 0 0 Q := by
  refine R_iload z26_0 rfl ?_
  refine R_iconst z26_1 (v := 1) (by decide) ?_
  refine R_sipush z26_2 (v := 2000) (by decide) ?_
  refine R_cs z26_5 (k := 46) (kind := 1) (by decide +kernel) (by decide) rfl rfl (by decide +kernel) (Nat.le_of_ble_eq_true (by rfl)) rfl ?_
  refine s46 (fun a1 a2 => jBk_ret rfl ⟨rfl, rfl⟩ ?_) (fun g => jBk_thr rfl ⟨rfl, rfl⟩ (hI (fun z => g.elim z.1.1 (fun y => y z.1.2))))
  refine R_iload z26_8 rfl ?_
  refine R_iconst z26_9 (v := 0) (by decide) ?_
  refine R_bipush z26_10 (v := 100) (by decide) ?_
  refine R_cs z26_12 (k := 46) (kind := 1) (by decide +kernel) (by decide) rfl rfl (by decide +kernel) (Nat.le_of_ble_eq_true (by rfl)) rfl ?_
  refine s46 (fun b1 b2 => jBk_ret rfl ⟨rfl, rfl⟩ ?_) (fun g => jBk_thr rfl ⟨rfl, rfl⟩ (hI (fun z => g.elim z.2.1.1 (fun y => y z.2.1.2))))
  refine R_iload z26_15 rfl ?_
  refine R_iconst z26_16 (v := 0) (by decide) ?_
  refine R_bipush z26_17 (v := 50) (by decide) ?_
  refine R_cs z26_19 (k := 46) (kind := 1) (by decide +kernel) (by decide) rfl rfl (by decide +kernel) (Nat.le_of_ble_eq_true (by rfl)) rfl ?_
  refine s46 (fun c1 c2 => jBk_ret rfl ⟨rfl, rfl⟩ ?_) (fun g => jBk_thr rfl ⟨rfl, rfl⟩ (hI (fun z => g.elim z.2.2.1 (fun y => y z.2.2.2))))
  refine R_aload z26_22 rfl ?_
  refine R_get z26_23 (k := 3) (f := 0) (by decide +kernel) rfl rfl ?_
  refine R_cv z26_26 (k := 4) (by decide +kernel) rfl rfl (by decide +kernel) (Nat.le_of_ble_eq_true (by rfl)) rfl ⟨rfl, trivial⟩ ?_
  refine s4 (fun g => jBk_ret rfl ⟨rfl, rfl⟩ ?_) (fun g => jBk_ret rfl ⟨rfl, rfl⟩ ?_)
  · refine R_if z26_29 (tn := 42) rfl (fun q => absurd (show (1 : Int32) = 0 from q) (by decide)) (fun _ => ?_)
    exact R_throw z26_32 (q := (45, 47, 49, "java/lang/UnsupportedOperationException", "no room for one more course")) (X := "java/lang/UnsupportedOperationException") (by decide +kernel) rfl rfl (by decide +kernel) (by decide +kernel) (hU ⟨⟨a1, a2⟩, ⟨b1, b2⟩, ⟨c1, c2⟩⟩ (by rw [hW.1, show (16 : Int32) = nI 16 by decide, nlt (by have := hW.2.1; omega) (by omega)] at g; exact g))
  · refine R_if z26_29 (tn := 42) rfl (fun _ => ?_) (fun q => absurd rfl q)
    refine R_aload z26_42 rfl ?_
    refine R_get z26_43 (k := 3) (f := 0) (by decide +kernel) rfl rfl ?_
    refine R_iload z26_46 rfl ?_
    refine R_iload z26_47 rfl ?_
    refine R_iload z26_48 rfl ?_
    refine R_cv z26_49 (k := 5) (by decide +kernel) rfl rfl (by decide +kernel) (Nat.le_of_ble_eq_true (by rfl)) rfl ⟨rfl, trivial⟩ ?_
    have hn : n < 16 := by
      rw [hW.1, show (16 : Int32) = nI 16 by decide, nlt (by have := hW.2.1; omega) (by omega)] at g; exact g
    refine s5 hW.1 hn (jBk_ret rfl ⟨rfl, rfl⟩ ?_)
    exact R_iret z26_52 (Or.inl (by decide +kernel)) ⟨Nat.zero_le _, Nat.zero_le _⟩ (hQ ⟨⟨a1, a2⟩, ⟨b1, b2⟩, ⟨c1, c2⟩⟩ hn)
theorem s28 {l : Launch} {E : jEnv} {A : Nat → Nat → Int32} {V : Nat → Int32} {O : Nat → Int64} {Q : jO → List jC → Prop} {d : Int32} (hI : ¬ jrg d 0 1000 → Q (.inr "java/lang/IndexOutOfBoundsException") (hp A V O)) (hQ : jrg d 0 1000 → Q (.inl none) (hp A (va_up V 1 d) O)) : GO l E 28 0 [some (.ref 0), some (.int d)] [] (hp A V O) 0 0 Q := by
  refine R_iload z28_0 rfl ?_
  refine R_iconst z28_1 (v := 0) (by decide) ?_
  refine R_sipush z28_2 (v := 1000) (by decide) ?_
  refine R_cs z28_5 (k := 46) (kind := 1) (by decide +kernel) (by decide) rfl rfl (by decide +kernel) (Nat.le_of_ble_eq_true (by rfl)) rfl ?_
  refine s46 (fun a1 a2 => jBk_ret rfl ⟨rfl, rfl⟩ ?_) (fun g => jBk_thr rfl ⟨rfl, rfl⟩ (hI (fun z => g.elim z.1 (fun y => y z.2))))
  refine R_aload z28_8 rfl ?_
  refine R_iload z28_9 rfl ?_
  refine R_puti z28_10 (k := 3) (f := 4) (h' := hp A (va_up V 1 d) O) (by decide +kernel) (by decide +kernel) rfl (Nat.le_of_ble_eq_true rfl) rfl ?_
  exact R_vret z28_13 ⟨Nat.zero_le _, Nat.zero_le _⟩ (hQ ⟨a1, a2⟩)
theorem s29 {l : Launch} {E : jEnv} {A : Nat → Nat → Int32} {V : Nat → Int32} {O : Nat → Int64} {Q : jO → List jC → Prop} {d : Int32} (hI : ¬ jrg d (V 0) 9999 → Q (.inr "java/lang/IndexOutOfBoundsException") (hp A V O)) (hS : jrg d (V 0) 9999 → d = V 0 → Q (.inl none) (hp A (va_up V 0 d) O)) (hQ : jrg d (V 0) 9999 → ¬ d = V 0 → Q (.inl none) (hp (va_up A 9 (jfil (A 9) 0 16)) (va_up V 0 d) O)) : GO l E 29 0 [some (.ref 0), some (.int d)] [] (hp A V O) 0 0 Q := by
  refine R_iload z29_0 rfl ?_
  refine R_aload z29_1 rfl ?_
  refine R_get z29_2 (k := 3) (f := 3) (by decide +kernel) rfl rfl ?_
  refine R_sipush z29_5 (v := 9999) (by decide) ?_
  refine R_cs z29_8 (k := 46) (kind := 1) (by decide +kernel) (by decide) rfl rfl (by decide +kernel) (Nat.le_of_ble_eq_true (by rfl)) rfl ?_
  refine s46 (fun a1 a2 => jBk_ret rfl ⟨rfl, rfl⟩ ?_) (fun g => jBk_thr rfl ⟨rfl, rfl⟩ (hI (fun z => g.elim z.1 (fun y => y z.2))))
  refine R_iload z29_11 rfl ?_
  refine R_aload z29_12 rfl ?_
  refine R_get z29_13 (k := 3) (f := 3) (by decide +kernel) rfl rfl ?_
  refine R_icmp z29_16 (tn := 26) rfl (fun (h16 : (d : Int32) = (V 0)) => ?_) (fun (h16 : ¬ (d : Int32) = (V 0)) => ?_)
  · refine R_aload z29_26 rfl ?_
    refine R_iload z29_27 rfl ?_
    refine R_puti z29_28 (k := 3) (f := 3) (h' := hp A (va_up V 0 d) O) (by decide +kernel) (by decide +kernel) rfl (Nat.le_of_ble_eq_true rfl) rfl ?_
    exact R_vret z29_31 ⟨Nat.zero_le _, Nat.zero_le _⟩ (hS ⟨a1, a2⟩ h16)
  · refine R_aload z29_19 rfl ?_
    refine R_get z29_20 (k := 3) (f := 0) (by decide +kernel) rfl rfl ?_
    refine R_cv z29_23 (k := 9) (by decide +kernel) rfl rfl (by decide +kernel) (Nat.le_of_ble_eq_true (by rfl)) rfl ⟨rfl, trivial⟩ ?_
    refine s9 (jBk_ret rfl ⟨rfl, rfl⟩ ?_)
    refine R_aload z29_26 rfl ?_
    refine R_iload z29_27 rfl ?_
    refine R_puti z29_28 (k := 3) (f := 3) (h' := hp (va_up A 9 (jfil (A 9) 0 16)) (va_up V 0 d) O) (by decide +kernel) (by decide +kernel) rfl (Nat.le_of_ble_eq_true rfl) rfl ?_
    exact R_vret z29_31 ⟨Nat.zero_le _, Nat.zero_le _⟩ (hQ ⟨a1, a2⟩ h16)
theorem s39_b {l : Launch} {E : jEnv} {A : Nat → Nat → Int32} {V : Nat → Int32} {O : Nat → Int64} {Q : jO → List jC → Prop} {c n r : Nat} (hW : cWf A V n r) (hc : c < 16) (hcn : c < n) (hQ : Q (.inl (some (.int (cRoom A V c)))) (hp A V O)) : GO l E 39 5 [some (.ref 0), some (.int (nI c))] [] (hp A V O) 0 0 Q := by
  refine R_aload z39_5 rfl ?_
  refine R_iload z39_6 rfl ?_
  refine R_cv z39_7 (k := 57) (by decide +kernel) rfl rfl (by decide +kernel) (Nat.le_of_ble_eq_true (by rfl)) rfl ⟨rfl, trivial⟩ ?_
  refine s57 hW hc (jBk_ret rfl ⟨rfl, rfl⟩ ?_)
  exact R_iret z39_10 (Or.inl (by decide +kernel)) ⟨Nat.zero_le _, Nat.zero_le _⟩ (hQ)
theorem s39 {l : Launch} {E : jEnv} {A : Nat → Nat → Int32} {V : Nat → Int32} {O : Nat → Int64} {Q : jO → List jC → Prop} {c : Int32} {n r : Nat} (hW : cWf A V n r) (hbad : (c < 0 ∨ ¬ c < V 2) → Q (.inr "java/lang/IllegalArgumentException") (hp A V O)) (hok : ∀ c2 : Nat, c = nI c2 → c2 < n → Q (.inl (some (.int (cRoom A V c2)))) (hp A V O)) : GO l E 39 0 [some (.ref 0), some (.int c)] [] (hp A V O) 0 0 Q := by
  refine R_aload z39_0 rfl ?_
  refine R_iload z39_1 rfl ?_
  refine R_cv z39_2 (k := 44) (by decide +kernel) rfl rfl (by decide +kernel) (Nat.le_of_ble_eq_true (by rfl)) rfl ⟨rfl, trivial⟩ ?_
  refine s44 (fun g1 g2 => jBk_ret rfl ⟨rfl, rfl⟩ ?_) (fun g => jBk_thr rfl ⟨rfl, rfl⟩ (hbad g))
  have hn16 := hW.2.1
  rw [hW.1] at g2
  obtain ⟨c2, hc2, rfl⟩ := jnat g1 g2 (by omega)
  exact s39_b hW (by omega) hc2 (hok c2 rfl hc2)
theorem s30_b {l : Launch} {E : jEnv} {A : Nat → Nat → Int32} {V : Nat → Int32} {O : Nat → Int64} {Q : jO → List jC → Prop} {m : Int32} {c n r : Nat} (hW : cWf A V n r) (hc : c < 16) (hcn : c < n) (hQ : ((¬ jrg m 0 10 → Q (.inr "java/lang/IndexOutOfBoundsException") (hp A V O)) ∧ (jrg m 0 10 → Q (.inl none) (hp (va_up A 5 (upd (A 5) c m)) V O)))) : GO l E 30 5 [some (.ref 0), some (.int (nI c)), some (.int m)] [] (hp A V O) 0 0 Q := by
  refine R_iload z30_5 rfl ?_
  refine R_iconst z30_6 (v := 0) (by decide) ?_
  refine R_bipush z30_7 (v := 10) (by decide) ?_
  refine R_cs z30_9 (k := 46) (kind := 1) (by decide +kernel) (by decide) rfl rfl (by decide +kernel) (Nat.le_of_ble_eq_true (by rfl)) rfl ?_
  refine s46 (fun a1 a2 => jBk_ret rfl ⟨rfl, rfl⟩ ?_) (fun g => jBk_thr rfl ⟨rfl, rfl⟩ (hQ.1 (fun z => g.elim z.1 (fun y => y z.2))))
  refine R_aload z30_12 rfl ?_
  refine R_get z30_13 (k := 3) (f := 0) (by decide +kernel) rfl rfl ?_
  refine R_get z30_16 (k := 0) (f := 3) (by decide +kernel) rfl rfl ?_
  refine R_iload z30_19 rfl ?_
  refine R_iload z30_20 rfl ?_
  refine R_ist z30_21 (n := 16) (f := A 5) (h' := hp (va_up A 5 (upd (A 5) c m)) V O) rfl (nin hc (by decide)) (by rw [ncl (by omega)]; rfl) ?_
  exact R_vret z30_22 ⟨Nat.zero_le _, Nat.zero_le _⟩ (hQ.2 ⟨a1, a2⟩)
theorem s30 {l : Launch} {E : jEnv} {A : Nat → Nat → Int32} {V : Nat → Int32} {O : Nat → Int64} {Q : jO → List jC → Prop} {c m : Int32} {n r : Nat} (hW : cWf A V n r) (hbad : (c < 0 ∨ ¬ c < V 2) → Q (.inr "java/lang/IllegalArgumentException") (hp A V O)) (hok : ∀ c2 : Nat, c = nI c2 → c2 < n → ((¬ jrg m 0 10 → Q (.inr "java/lang/IndexOutOfBoundsException") (hp A V O)) ∧ (jrg m 0 10 → Q (.inl none) (hp (va_up A 5 (upd (A 5) c2 m)) V O)))) : GO l E 30 0 [some (.ref 0), some (.int c), some (.int m)] [] (hp A V O) 0 0 Q := by
  refine R_aload z30_0 rfl ?_
  refine R_iload z30_1 rfl ?_
  refine R_cv z30_2 (k := 44) (by decide +kernel) rfl rfl (by decide +kernel) (Nat.le_of_ble_eq_true (by rfl)) rfl ⟨rfl, trivial⟩ ?_
  refine s44 (fun g1 g2 => jBk_ret rfl ⟨rfl, rfl⟩ ?_) (fun g => jBk_thr rfl ⟨rfl, rfl⟩ (hbad g))
  have hn16 := hW.2.1
  rw [hW.1] at g2
  obtain ⟨c2, hc2, rfl⟩ := jnat g1 g2 (by omega)
  exact s30_b hW (by omega) hc2 (hok c2 rfl hc2)
def cTom (A : Nat → Nat → Int32) (V : Nat → Int32) (c : Nat) (i : Int32) : Nat → Nat → Int32 → Int32
  | 0, _, _ => -1
  | d + 1, k, b => if cLap A k c = V 0 + 1 then (if b = i then nI k else cTom A V c i d (k + 1) (b + 1)) else cTom A V c i d (k + 1) b
theorem s42_lp {l : Launch} {E : jEnv} {A : Nat → Nat → Int32} {V : Nat → Int32} {O : Nat → Int64} {Q : jO → List jC → Prop} {c n r : Nat} {i : Int32} (hW : cWf A V n r) (hc : c < 16) : ∀ (d k : Nat) (b : Int32), k + d = 20 → Q (.inl (some (.int (cTom A V c i d k b)))) (hp A V O) → GO l E 42 24 [some (.ref 0), some (.int (nI c)), some (.int i), some (.int b), some (.int (nI k))] [] (hp A V O) 0 0 Q := by
  intro d
  induction d with
  | zero =>
    intro k b hk hQ
    have hn16 := hW.2.1
    have hr300 := hW.2.2.2.1
    refine R_iload z42_24 rfl ?_
    refine R_bipush z42_26 (v := 20) (by decide) ?_
    refine R_icmp z42_28 (tn := 64) rfl (fun (h28 : (20 : Int32) ≤ (nI k)) => ?_) (fun q => absurd ((show (20 : Int32) ≤ nI k by rw [n20, nge (by omega) (by omega)]; omega)) q)
    refine R_iconst z42_64 (v := (-1)) (by decide) ?_
    exact R_iret z42_65 (Or.inl (by decide +kernel)) ⟨Nat.zero_le _, Nat.zero_le _⟩ (hQ)
  | succ d ih =>
    intro k b hk hQ
    have hn16 := hW.2.1
    have hr300 := hW.2.2.2.1
    refine R_iload z42_24 rfl ?_
    refine R_bipush z42_26 (v := 20) (by decide) ?_
    refine R_icmp z42_28 (tn := 64) rfl (fun q => absurd q ((show ¬ (20 : Int32) ≤ nI k by rw [n20, nge (by omega) (by omega)]; omega))) (fun (h28 : ¬ (20 : Int32) ≤ (nI k)) => ?_)
    refine R_aload z42_31 rfl ?_
    refine R_iload z42_32 rfl ?_
    refine R_iload z42_34 rfl ?_
    refine R_cv z42_35 (k := 52) (by decide +kernel) rfl rfl (by decide +kernel) (Nat.le_of_ble_eq_true (by rfl)) rfl ⟨rfl, trivial⟩ ?_
    refine s52 hW (by omega) hc (jBk_ret rfl ⟨rfl, rfl⟩ ?_)
    refine R_aload z42_38 rfl ?_
    refine R_get z42_39 (k := 3) (f := 3) (by decide +kernel) rfl rfl ?_
    refine R_iconst z42_42 (v := 1) (by decide) ?_
    refine R_iadd z42_43 ?_
    refine R_icmp z42_44 (tn := 58) rfl (fun (h44 : ¬ ((cLap A k c) : Int32) = ((V 0) + 1)) => ?_) (fun (h44 : ¬ (¬ ((cLap A k c) : Int32) = ((V 0) + 1))) => ?_)
    · refine R_iinc z42_58 (v := 1) (loc' := [some (.ref 0), some (.int (nI c)), some (.int i), some (.int b), some (.int (nI (k + 1)))]) rfl rfl (by decide) (by rw [nI_1]; rfl) ?_
      refine R_goto z42_61 (tn := 24) rfl ?_
      rw [cTom, if_neg h44] at hQ
      exact ih (k + 1) _ (by omega) hQ
    · refine R_iload z42_47 rfl ?_
      refine R_iload z42_48 rfl ?_
      refine R_icmp z42_49 (tn := 55) rfl (fun (h49 : ¬ (b : Int32) = i) => ?_) (fun (h49 : ¬ (¬ (b : Int32) = i)) => ?_)
      · refine R_iinc z42_55 (v := 1) (loc' := [some (.ref 0), some (.int (nI c)), some (.int i), some (.int (b + 1)), some (.int (nI k))]) rfl rfl (by decide) (rfl) ?_
        refine R_iinc z42_58 (v := 1) (loc' := [some (.ref 0), some (.int (nI c)), some (.int i), some (.int (b + 1)), some (.int (nI (k + 1)))]) rfl rfl (by decide) (by rw [nI_1]; rfl) ?_
        refine R_goto z42_61 (tn := 24) rfl ?_
        rw [cTom, if_pos (Classical.not_not.mp h44), if_neg h49] at hQ
        exact ih (k + 1) _ (by omega) hQ
      · refine R_iload z42_52 rfl ?_
        exact R_iret z42_54 (Or.inl (by decide +kernel)) ⟨Nat.zero_le _, Nat.zero_le _⟩ (by rw [cTom, if_pos (Classical.not_not.mp h44), if_pos (Classical.not_not.mp h49)] at hQ; exact hQ)
theorem s42_b {l : Launch} {E : jEnv} {A : Nat → Nat → Int32} {V : Nat → Int32} {O : Nat → Int64} {Q : jO → List jC → Prop} {i : Int32} {c n r : Nat} (hW : cWf A V n r) (hc : c < 16) (hcn : c < n) (hQ : ((i < 0 → Q (.inr "java/lang/IndexOutOfBoundsException") (hp A V O)) ∧ (¬ i < 0 → Q (.inl (some (.int (cTom A V c i 20 0 0)))) (hp A V O)))) : GO l E 42 5 [some (.ref 0), some (.int (nI c)), some (.int i), none, none] [] (hp A V O) 0 0 Q := by
  refine R_iload z42_5 rfl ?_
  refine R_if z42_6 (tn := 19) rfl (fun (h6 : (0 : Int32) ≤ i) => ?_) (fun (h6 : ¬ (0 : Int32) ≤ i) => ?_)
  · refine R_iconst z42_19 (v := 0) (by decide) ?_
    refine R_istore z42_20 (loc' := [some (.ref 0), some (.int (nI c)), some (.int i), some (.int 0), none]) rfl rfl ?_
    refine R_iconst z42_21 (v := 0) (by decide) ?_
    refine R_istore z42_22 (loc' := [some (.ref 0), some (.int (nI c)), some (.int i), some (.int 0), some (.int 0)]) rfl rfl ?_
    exact s42_lp hW hc 20 0 0 (by omega) (hQ.2 (Int32.not_lt.mpr h6))
  · exact R_throw z42_9 (q := (183, 185, 187, "java/lang/IndexOutOfBoundsException", "a place in a row is 0 at least")) (X := "java/lang/IndexOutOfBoundsException") (by decide +kernel) rfl rfl (by decide +kernel) (by decide +kernel) (hQ.1 (Int32.not_le.mp h6))
theorem s42 {l : Launch} {E : jEnv} {A : Nat → Nat → Int32} {V : Nat → Int32} {O : Nat → Int64} {Q : jO → List jC → Prop} {c i : Int32} {n r : Nat} (hW : cWf A V n r) (hbad : (c < 0 ∨ ¬ c < V 2) → Q (.inr "java/lang/IllegalArgumentException") (hp A V O)) (hok : ∀ c2 : Nat, c = nI c2 → c2 < n → ((i < 0 → Q (.inr "java/lang/IndexOutOfBoundsException") (hp A V O)) ∧ (¬ i < 0 → Q (.inl (some (.int (cTom A V c2 i 20 0 0)))) (hp A V O)))) : GO l E 42 0 [some (.ref 0), some (.int c), some (.int i), none, none] [] (hp A V O) 0 0 Q := by
  refine R_aload z42_0 rfl ?_
  refine R_iload z42_1 rfl ?_
  refine R_cv z42_2 (k := 44) (by decide +kernel) rfl rfl (by decide +kernel) (Nat.le_of_ble_eq_true (by rfl)) rfl ⟨rfl, trivial⟩ ?_
  refine s44 (fun g1 g2 => jBk_ret rfl ⟨rfl, rfl⟩ ?_) (fun g => jBk_thr rfl ⟨rfl, rfl⟩ (hbad g))
  have hn16 := hW.2.1
  rw [hW.1] at g2
  obtain ⟨c2, hc2, rfl⟩ := jnat g1 g2 (by omega)
  exact s42_b hW (by omega) hc2 (hok c2 rfl hc2)
theorem s27_b {l : Launch} {E : jEnv} {A : Nat → Nat → Int32} {V : Nat → Int32} {O : Nat → Int64} {Q : jO → List jC → Prop} {c o n r : Nat} (hW : cWf A V n r) (hc : c < 16) (ho : o < 16) (hQ : (((c = o ∨ jbit (A 7 o) (nI c)) → Q (.inr "java/lang/IllegalStateException") (hp A V O)) ∧ (¬ (c = o ∨ jbit (A 7 o) (nI c)) → jbit (A 6 c) (nI o) → Q (.inr "java/lang/IllegalStateException") (hp A V O)) ∧ (¬ (c = o ∨ jbit (A 7 o) (nI c)) → ¬ jbit (A 6 c) (nI o) → Q (.inl none) (hp (cNeed A c o n) V O)))) : GO l E 27 10 [some (.ref 0), some (.int (nI c)), some (.int (nI o))] [] (hp A V O) 0 0 Q := by
  refine R_aload z27_10 rfl ?_
  refine R_get z27_11 (k := 3) (f := 0) (by decide +kernel) rfl rfl ?_
  refine R_iload z27_14 rfl ?_
  refine R_iload z27_15 rfl ?_
  refine R_cv z27_16 (k := 6) (by decide +kernel) rfl rfl (by decide +kernel) (Nat.le_of_ble_eq_true (by rfl)) rfl ⟨rfl, trivial⟩ ?_
  refine s6 hc ho (fun g => ?y1) (fun g => jBk_ret rfl ⟨rfl, rfl⟩ ?y2)
  rotate_left
  · refine R_if z27_19 (tn := 32) rfl (fun _ => ?_) (fun q => absurd (show (0 : Int32) = 0 by decide) q)
    refine R_aload z27_32 rfl ?_
    refine R_get z27_33 (k := 3) (f := 0) (by decide +kernel) rfl rfl ?_
    refine R_get z27_36 (k := 0) (f := 4) (by decide +kernel) rfl rfl ?_
    refine R_iload z27_39 rfl ?_
    refine R_ild z27_40 (n := 16) (f := A 6) (v := (A 6 c)) rfl (nin hc (by decide)) (by rw [ncl (by omega)]) ?_
    refine R_iload z27_41 rfl ?_
    refine R_cs z27_42 (k := 49) (kind := 1) (by decide +kernel) (by decide) rfl rfl (by decide +kernel) (Nat.le_of_ble_eq_true (by rfl)) rfl ?_
    refine s49 (fun g2 => ?y3) (fun g2 => jBk_ret rfl ⟨rfl, rfl⟩ ?y4)
    rotate_left
    · refine R_if z27_45 (tn := 58) rfl (fun _ => ?_) (fun q => absurd (show (0 : Int32) = 0 by decide) q)
      refine R_aload z27_58 rfl ?_
      refine R_get z27_59 (k := 3) (f := 0) (by decide +kernel) rfl rfl ?_
      refine R_iload z27_62 rfl ?_
      refine R_iload z27_63 rfl ?_
      refine R_cv z27_64 (k := 7) (by decide +kernel) rfl rfl (by decide +kernel) (Nat.le_of_ble_eq_true (by rfl)) rfl ⟨rfl, trivial⟩ ?_
      refine s7 hW.1 hW.2.1 hc ho (jBk_ret rfl ⟨rfl, rfl⟩ ?_)
      exact R_vret z27_67 ⟨Nat.zero_le _, Nat.zero_le _⟩ (hQ.2.2 g g2)
    · refine jBk_ret rfl ⟨rfl, rfl⟩ ?_
      refine R_if z27_45 (tn := 58) rfl (fun q => absurd (show (1 : Int32) = 0 from q) (by decide)) (fun _ => ?_)
      exact R_throw z27_48 (q := (64, 76, 68, "java/lang/IllegalStateException", "the course needs that one already")) (X := "java/lang/IllegalStateException") (by decide +kernel) rfl rfl (by decide +kernel) (by decide +kernel) (hQ.2.1 g g2)
  · refine jBk_ret rfl ⟨rfl, rfl⟩ ?_
    refine R_if z27_19 (tn := 32) rfl (fun q => absurd (show (1 : Int32) = 0 from q) (by decide)) (fun _ => ?_)
    exact R_throw z27_22 (q := (64, 66, 68, "java/lang/IllegalStateException", "the course would need itself")) (X := "java/lang/IllegalStateException") (by decide +kernel) rfl rfl (by decide +kernel) (by decide +kernel) (hQ.1 g)
theorem s27 {l : Launch} {E : jEnv} {A : Nat → Nat → Int32} {V : Nat → Int32} {O : Nat → Int64} {Q : jO → List jC → Prop} {c o : Int32} {n r : Nat} (hW : cWf A V n r) (hbad : (c < 0 ∨ ¬ c < V 2 ∨ o < 0 ∨ ¬ o < V 2) → Q (.inr "java/lang/IllegalArgumentException") (hp A V O)) (hok : ∀ c2 o2 : Nat, c = nI c2 → o = nI o2 → c2 < n → o2 < n → (((c2 = o2 ∨ jbit (A 7 o2) (nI c2)) → Q (.inr "java/lang/IllegalStateException") (hp A V O)) ∧ (¬ (c2 = o2 ∨ jbit (A 7 o2) (nI c2)) → jbit (A 6 c2) (nI o2) → Q (.inr "java/lang/IllegalStateException") (hp A V O)) ∧ (¬ (c2 = o2 ∨ jbit (A 7 o2) (nI c2)) → ¬ jbit (A 6 c2) (nI o2) → Q (.inl none) (hp (cNeed A c2 o2 n) V O)))) : GO l E 27 0 [some (.ref 0), some (.int c), some (.int o)] [] (hp A V O) 0 0 Q := by
  refine R_aload z27_0 rfl ?_
  refine R_iload z27_1 rfl ?_
  refine R_cv z27_2 (k := 44) (by decide +kernel) rfl rfl (by decide +kernel) (Nat.le_of_ble_eq_true (by rfl)) rfl ⟨rfl, trivial⟩ ?_
  refine s44 (fun g1 g2 => jBk_ret rfl ⟨rfl, rfl⟩ ?_) (fun g => jBk_thr rfl ⟨rfl, rfl⟩ (hbad (g.elim Or.inl (fun y => Or.inr (Or.inl y)))))
  refine R_aload z27_5 rfl ?_
  refine R_iload z27_6 rfl ?_
  refine R_cv z27_7 (k := 44) (by decide +kernel) rfl rfl (by decide +kernel) (Nat.le_of_ble_eq_true (by rfl)) rfl ⟨rfl, trivial⟩ ?_
  refine s44 (fun g3 g4 => jBk_ret rfl ⟨rfl, rfl⟩ ?_) (fun g => jBk_thr rfl ⟨rfl, rfl⟩ (hbad (Or.inr (Or.inr g))))
  have hn16 := hW.2.1
  rw [hW.1] at g2 g4
  obtain ⟨c2, hc2, rfl⟩ := jnat g1 g2 (by omega)
  obtain ⟨o2, ho2, rfl⟩ := jnat g3 g4 (by omega)
  exact s27_b hW (by omega) (by omega) (hok c2 o2 rfl rfl hc2 ho2)
theorem s41 {l : Launch} {E : jEnv} {A : Nat → Nat → Int32} {V : Nat → Int32} {O : Nat → Int64} {Q : jO → List jC → Prop} {s0 : Int32} {k : Nat} (hk : V 5 = nI k) (hk2 : k ≤ 12) (hbad : (s0 < 0 ∨ ¬ s0 < V 5) → Q (.inr "java/lang/IllegalArgumentException") (hp A V O)) (hok : ∀ j : Nat, s0 = nI j → j < k → Q (.inl (some (.int (A 21 j)))) (hp A V O)) : GO l E 41 0 [some (.ref 0), some (.int s0)] [] (hp A V O) 0 0 Q := by
  refine R_iload z41_0 rfl ?_
  refine R_if z41_1 (tn := 15) rfl (fun (h1 : (s0 : Int32) < 0) => ?_) (fun (h1 : ¬ (s0 : Int32) < 0) => ?_)
  · exact R_throw z41_15 (q := (175, 177, 179, "java/lang/IllegalArgumentException", "the latest plan has no such seat")) (X := "java/lang/IllegalArgumentException") (by decide +kernel) rfl rfl (by decide +kernel) (by decide +kernel) (hbad (Or.inl h1))
  · refine R_iload z41_4 rfl ?_
    refine R_aload z41_5 rfl ?_
    refine R_get z41_6 (k := 3) (f := 2) (by decide +kernel) rfl rfl ?_
    refine R_get z41_9 (k := 2) (f := 5) (by decide +kernel) rfl rfl ?_
    refine R_icmp z41_12 (tn := 25) rfl (fun (h12 : (s0 : Int32) < (V 5)) => ?_) (fun (h12 : ¬ (s0 : Int32) < (V 5)) => ?_)
    · rw [hk] at h12
      obtain ⟨j, hj, ej⟩ := jnat h1 h12 (by omega)
      refine R_aload z41_25 rfl ?_
      refine R_get z41_26 (k := 3) (f := 2) (by decide +kernel) rfl rfl ?_
      refine R_get z41_29 (k := 2) (f := 1) (by decide +kernel) rfl rfl ?_
      refine R_iload z41_32 rfl ?_
      refine R_ild z41_33 (n := 12) (f := A 21) (v := (A 21 j)) rfl (by rw [ej]; exact nin (by omega) (by decide)) (by rw [ej, ncl (by omega)]) ?_
      exact R_iret z41_34 (Or.inl (by decide +kernel)) ⟨Nat.zero_le _, Nat.zero_le _⟩ (hok j ej hj)
    · exact R_throw z41_15 (q := (175, 177, 179, "java/lang/IllegalArgumentException", "the latest plan has no such seat")) (X := "java/lang/IllegalArgumentException") (by decide +kernel) rfl rfl (by decide +kernel) (by decide +kernel) (hbad (Or.inr h12))
theorem s33_1b {l : Launch} {E : jEnv} {A : Nat → Nat → Int32} {V : Nat → Int32} {O : Nat → Int64} {Q : jO → List jC → Prop} {p c n r : Nat} (hW : cWf A V n r) (hp2 : p < 20) (hc : c < 16) (g : ¬ jbit (A 8 c) (nI p)) (hQ : ((jbit (A 8 c) (nI p) → Q (.inr "java/lang/IllegalStateException") (hp A V O)) ∧ (¬ jbit (A 8 c) (nI p) → ¬ cHold A V p c → Q (.inr "java/lang/IllegalStateException") (hp A V O)) ∧ (¬ jbit (A 8 c) (nI p) → cHold A V p c → Q (.inl none) (hp (va_up A 8 (upd (A 8) c (A 8 c ^^^ (1 : Int32) <<< (nI p &&& 31)))) V O)))) : GO l E 33 33 [some (.ref 0), some (.int (nI p)), some (.int (nI c)), some (.int 1)] [] (hp A V O) 0 0 Q := by
  refine R_iload z33_33 rfl ?_
  refine R_if z33_34 (tn := 56) rfl (fun q => absurd (show (1 : Int32) = 0 from q) (by decide)) (fun _ => ?_)
  refine R_aload z33_37 rfl ?_
  refine R_iload z33_38 rfl ?_
  refine R_iload z33_39 rfl ?_
  refine R_cv z33_40 (k := 54) (by decide +kernel) rfl rfl (by decide +kernel) (Nat.le_of_ble_eq_true (by rfl)) rfl ⟨rfl, trivial⟩ ?_
  refine s54 hW hp2 hc (fun g2 => jBk_ret rfl ⟨rfl, rfl⟩ ?_) (fun g2 => jBk_ret rfl ⟨rfl, rfl⟩ ?_)
  · refine R_if z33_43 (tn := 56) rfl (fun _ => ?_) (fun q => absurd (show ¬ (1 : Int32) = 0 by decide) q)
    refine R_aload z33_56 rfl ?_
    refine R_get z33_57 (k := 3) (f := 0) (by decide +kernel) rfl rfl ?_
    refine R_get z33_60 (k := 0) (f := 6) (by decide +kernel) rfl rfl ?_
    refine R_iload z33_63 rfl ?_
    refine R_dup2 z33_64 ?_
    refine R_ild z33_65 (n := 16) (f := A 8) (v := (A 8 c)) rfl (nin hc (by decide)) (by rw [ncl (by omega)]) ?_
    refine R_iconst z33_66 (v := 1) (by decide) ?_
    refine R_iload z33_67 rfl ?_
    refine R_ishl z33_68 ?_
    refine R_ixor z33_69 ?_
    refine R_ist z33_70 (n := 16) (f := A 8) (h' := hp (va_up A 8 (upd (A 8) c (A 8 c ^^^ (1 : Int32) <<< (nI p &&& 31)))) V O) rfl (nin hc (by decide)) (by rw [ncl (by omega)]; rfl) ?_
    exact R_vret z33_71 ⟨Nat.zero_le _, Nat.zero_le _⟩ (hQ.2.2 g g2)
  · refine R_if z33_43 (tn := 56) rfl (fun q => absurd rfl q) (fun _ => ?_)
    exact R_throw z33_46 (q := (64, 127, 68, "java/lang/IllegalStateException", "the person does not hold the course")) (X := "java/lang/IllegalStateException") (by decide +kernel) rfl rfl (by decide +kernel) (by decide +kernel) (hQ.2.1 g g2)
theorem s33_1 {l : Launch} {E : jEnv} {A : Nat → Nat → Int32} {V : Nat → Int32} {O : Nat → Int64} {Q : jO → List jC → Prop} {p c n r : Nat} (hW : cWf A V n r) (hp2 : p < 20) (hc : c < 16) (hQ : ((jbit (A 8 c) (nI p) → Q (.inr "java/lang/IllegalStateException") (hp A V O)) ∧ (¬ jbit (A 8 c) (nI p) → ¬ cHold A V p c → Q (.inr "java/lang/IllegalStateException") (hp A V O)) ∧ (¬ jbit (A 8 c) (nI p) → cHold A V p c → Q (.inl none) (hp (va_up A 8 (upd (A 8) c (A 8 c ^^^ (1 : Int32) <<< (nI p &&& 31)))) V O)))) : GO l E 33 6 [some (.ref 0), some (.int (nI p)), some (.int (nI c)), some (.int 1)] [] (hp A V O) 0 0 Q := by
  refine R_aload z33_6 rfl ?_
  refine R_get z33_7 (k := 3) (f := 0) (by decide +kernel) rfl rfl ?_
  refine R_get z33_10 (k := 0) (f := 6) (by decide +kernel) rfl rfl ?_
  refine R_iload z33_13 rfl ?_
  refine R_ild z33_14 (n := 16) (f := A 8) (v := (A 8 c)) rfl (nin hc (by decide)) (by rw [ncl (by omega)]) ?_
  refine R_iload z33_15 rfl ?_
  refine R_cs z33_16 (k := 49) (kind := 1) (by decide +kernel) (by decide) rfl rfl (by decide +kernel) (Nat.le_of_ble_eq_true (by rfl)) rfl ?_
  refine s49 (fun g => jBk_ret rfl ⟨rfl, rfl⟩ ?_) (fun g => jBk_ret rfl ⟨rfl, rfl⟩ ?_)
  · refine R_iload z33_19 rfl ?_
    refine R_icmp z33_20 (tn := 33) rfl (fun q => absurd (show ¬ (1 : Int32) = 1 from q) (by decide)) (fun _ => ?_)
    exact R_throw z33_23 (q := (64, 122, 68, "java/lang/IllegalStateException", "it is so already")) (X := "java/lang/IllegalStateException") (by decide +kernel) rfl rfl (by decide +kernel) (by decide +kernel) (hQ.1 g)
  · refine R_iload z33_19 rfl ?_
    refine R_icmp z33_20 (tn := 33) rfl (fun _ => ?_) (fun q => absurd (show ¬ (0 : Int32) = 1 by decide) q)
    exact s33_1b hW hp2 hc g hQ
theorem s33_0 {l : Launch} {E : jEnv} {A : Nat → Nat → Int32} {V : Nat → Int32} {O : Nat → Int64} {Q : jO → List jC → Prop} {p c n r : Nat} (hW : cWf A V n r) (hp2 : p < 20) (hc : c < 16) (hQ : ((¬ jbit (A 8 c) (nI p) → Q (.inr "java/lang/IllegalStateException") (hp A V O)) ∧ (jbit (A 8 c) (nI p) → Q (.inl none) (hp (va_up A 8 (upd (A 8) c (A 8 c ^^^ (1 : Int32) <<< (nI p &&& 31)))) V O)))) : GO l E 33 6 [some (.ref 0), some (.int (nI p)), some (.int (nI c)), some (.int 0)] [] (hp A V O) 0 0 Q := by
  refine R_aload z33_6 rfl ?_
  refine R_get z33_7 (k := 3) (f := 0) (by decide +kernel) rfl rfl ?_
  refine R_get z33_10 (k := 0) (f := 6) (by decide +kernel) rfl rfl ?_
  refine R_iload z33_13 rfl ?_
  refine R_ild z33_14 (n := 16) (f := A 8) (v := (A 8 c)) rfl (nin hc (by decide)) (by rw [ncl (by omega)]) ?_
  refine R_iload z33_15 rfl ?_
  refine R_cs z33_16 (k := 49) (kind := 1) (by decide +kernel) (by decide) rfl rfl (by decide +kernel) (Nat.le_of_ble_eq_true (by rfl)) rfl ?_
  refine s49 (fun g => jBk_ret rfl ⟨rfl, rfl⟩ ?_) (fun g => jBk_ret rfl ⟨rfl, rfl⟩ ?_)
  · refine R_iload z33_19 rfl ?_
    refine R_icmp z33_20 (tn := 33) rfl (fun _ => ?_) (fun q => absurd (show ¬ (1 : Int32) = 0 by decide) q)
    refine R_iload z33_33 rfl ?_
    refine R_if z33_34 (tn := 56) rfl (fun _ => ?_) (fun q => absurd (show (0 : Int32) = 0 by decide) q)
    refine R_aload z33_56 rfl ?_
    refine R_get z33_57 (k := 3) (f := 0) (by decide +kernel) rfl rfl ?_
    refine R_get z33_60 (k := 0) (f := 6) (by decide +kernel) rfl rfl ?_
    refine R_iload z33_63 rfl ?_
    refine R_dup2 z33_64 ?_
    refine R_ild z33_65 (n := 16) (f := A 8) (v := (A 8 c)) rfl (nin hc (by decide)) (by rw [ncl (by omega)]) ?_
    refine R_iconst z33_66 (v := 1) (by decide) ?_
    refine R_iload z33_67 rfl ?_
    refine R_ishl z33_68 ?_
    refine R_ixor z33_69 ?_
    refine R_ist z33_70 (n := 16) (f := A 8) (h' := hp (va_up A 8 (upd (A 8) c (A 8 c ^^^ (1 : Int32) <<< (nI p &&& 31)))) V O) rfl (nin hc (by decide)) (by rw [ncl (by omega)]; rfl) ?_
    exact R_vret z33_71 ⟨Nat.zero_le _, Nat.zero_le _⟩ (hQ.2 g)
  · refine R_iload z33_19 rfl ?_
    refine R_icmp z33_20 (tn := 33) rfl (fun q => absurd rfl q) (fun _ => ?_)
    exact R_throw z33_23 (q := (64, 122, 68, "java/lang/IllegalStateException", "it is so already")) (X := "java/lang/IllegalStateException") (by decide +kernel) rfl rfl (by decide +kernel) (by decide +kernel) (hQ.1 g)
theorem s33_1f {l : Launch} {E : jEnv} {A : Nat → Nat → Int32} {V : Nat → Int32} {O : Nat → Int64} {Q : jO → List jC → Prop} {p c : Int32} {n r : Nat} (hW : cWf A V n r) (hbad : jbad V p c → Q (.inr "java/lang/IllegalArgumentException") (hp A V O)) (hok : ∀ p2 c2 : Nat, p = nI p2 → c = nI c2 → p2 < 20 → c2 < n → ((jbit (A 8 c2) (nI p2) → Q (.inr "java/lang/IllegalStateException") (hp A V O)) ∧ (¬ jbit (A 8 c2) (nI p2) → ¬ cHold A V p2 c2 → Q (.inr "java/lang/IllegalStateException") (hp A V O)) ∧ (¬ jbit (A 8 c2) (nI p2) → cHold A V p2 c2 → Q (.inl none) (hp (va_up A 8 (upd (A 8) c2 (A 8 c2 ^^^ (1 : Int32) <<< (nI p2 &&& 31)))) V O)))) : GO l E 33 0 [some (.ref 0), some (.int p), some (.int c), some (.int 1)] [] (hp A V O) 0 0 Q := by
  refine R_aload z33_0 rfl ?_
  refine R_iload z33_1 rfl ?_
  refine R_iload z33_2 rfl ?_
  refine R_cv z33_3 (k := 45) (by decide +kernel) rfl rfl (by decide +kernel) (Nat.le_of_ble_eq_true (by rfl)) rfl ⟨rfl, trivial⟩ ?_
  refine s45 (fun g1 g2 g3 g4 => jBk_ret rfl ⟨rfl, rfl⟩ ?_) (fun g => jBk_thr rfl ⟨rfl, rfl⟩ (hbad g))
  have hn16 := hW.2.1
  rw [n20] at g2
  rw [hW.1] at g4
  obtain ⟨p2, hp2, rfl⟩ := jnat g1 g2 (by omega)
  obtain ⟨c2, hc2, rfl⟩ := jnat g3 g4 (by omega)
  exact s33_1 hW hp2 (by omega) (hok p2 c2 rfl rfl hp2 hc2)
theorem s33_0f {l : Launch} {E : jEnv} {A : Nat → Nat → Int32} {V : Nat → Int32} {O : Nat → Int64} {Q : jO → List jC → Prop} {p c : Int32} {n r : Nat} (hW : cWf A V n r) (hbad : jbad V p c → Q (.inr "java/lang/IllegalArgumentException") (hp A V O)) (hok : ∀ p2 c2 : Nat, p = nI p2 → c = nI c2 → p2 < 20 → c2 < n → ((¬ jbit (A 8 c2) (nI p2) → Q (.inr "java/lang/IllegalStateException") (hp A V O)) ∧ (jbit (A 8 c2) (nI p2) → Q (.inl none) (hp (va_up A 8 (upd (A 8) c2 (A 8 c2 ^^^ (1 : Int32) <<< (nI p2 &&& 31)))) V O)))) : GO l E 33 0 [some (.ref 0), some (.int p), some (.int c), some (.int 0)] [] (hp A V O) 0 0 Q := by
  refine R_aload z33_0 rfl ?_
  refine R_iload z33_1 rfl ?_
  refine R_iload z33_2 rfl ?_
  refine R_cv z33_3 (k := 45) (by decide +kernel) rfl rfl (by decide +kernel) (Nat.le_of_ble_eq_true (by rfl)) rfl ⟨rfl, trivial⟩ ?_
  refine s45 (fun g1 g2 g3 g4 => jBk_ret rfl ⟨rfl, rfl⟩ ?_) (fun g => jBk_thr rfl ⟨rfl, rfl⟩ (hbad g))
  have hn16 := hW.2.1
  rw [n20] at g2
  rw [hW.1] at g4
  obtain ⟨p2, hp2, rfl⟩ := jnat g1 g2 (by omega)
  obtain ⟨c2, hc2, rfl⟩ := jnat g3 g4 (by omega)
  exact s33_0 hW hp2 (by omega) (hok p2 c2 rfl rfl hp2 hc2)

theorem nI_int {x : Int32} {k : Nat} (h : x.toInt = k) (hk : k < 20000) : x = nI k := by
  apply Int32.toInt_inj.mp
  rw [h, nI_toInt (by omega)]
theorem w43 {w : Int32} (hx : w.toInt < 0 ∨ 3 < w.toInt) : w < 0 ∨ ¬ w ≤ 3 := by
  have h3 : (3 : Int32).toInt = 3 := by decide
  rcases hx with g | g
  · exact Or.inl (Int32.lt_iff_toInt_lt.mpr g)
  · refine Or.inr (fun z => ?_)
    have := Int32.le_iff_toInt_le.mp z
    omega
theorem s43 {l : Launch} {E : jEnv} {A : Nat → Nat → Int32} {V : Nat → Int32} {O : Nat → Int64} {Q : jO → List jC → Prop} {w : Int32} {n r : Nat} (hW : cWf A V n r) (h0 : w = 0 → Q (.inl (some (.int (V 2)))) (hp A V O)) (h1 : w = 1 → Q (.inl (some (.int (V 3)))) (hp A V O)) (h2 : w = 2 → Q (.inl (some (.int (V 4)))) (hp A V O)) (h3 : w = 3 → Q (.inl (some (.int (nI (cAll A V n))))) (hp A V O)) (hbad : (w < 0 ∨ ¬ w ≤ 3) → Q (.inr "java/lang/IllegalArgumentException") (hp A V O)) : GO l E 43 0 [some (.ref 0), some (.int w)] [] (hp A V O) 0 0 Q := by
  refine R_iload z43_0 rfl ?_
  refine R_tsw z43_1 (fun k t hk hx => ?_) (fun hx => ?_)
  · have hx2 : w.toInt = (k : Int) := by omega
    match k, hk with
    | 0, hk =>
      cases hk
      have ew : w = 0 := nI_int hx2 (by decide)
      refine R_aload z43_32 rfl ?_
      refine R_get z43_33 (k := 3) (f := 0) (by decide +kernel) rfl rfl ?_
      refine R_get z43_36 (k := 0) (f := 9) (by decide +kernel) rfl rfl ?_
      exact R_iret z43_39 (Or.inl (by decide +kernel)) ⟨Nat.zero_le _, Nat.zero_le _⟩ (h0 ew)
    | 1, hk =>
      cases hk
      have ew : w = 1 := nI_int hx2 (by decide)
      refine R_aload z43_40 rfl ?_
      refine R_get z43_41 (k := 3) (f := 1) (by decide +kernel) rfl rfl ?_
      refine R_get z43_44 (k := 1) (f := 7) (by decide +kernel) rfl rfl ?_
      exact R_iret z43_47 (Or.inl (by decide +kernel)) ⟨Nat.zero_le _, Nat.zero_le _⟩ (h1 ew)
    | 2, hk =>
      cases hk
      have ew : w = 2 := nI_int hx2 (by decide)
      refine R_aload z43_48 rfl ?_
      refine R_get z43_49 (k := 3) (f := 1) (by decide +kernel) rfl rfl ?_
      refine R_get z43_52 (k := 1) (f := 8) (by decide +kernel) rfl rfl ?_
      exact R_iret z43_55 (Or.inl (by decide +kernel)) ⟨Nat.zero_le _, Nat.zero_le _⟩ (h2 ew)
    | 3, hk =>
      cases hk
      have ew : w = 3 := nI_int hx2 (by decide)
      refine R_aload z43_56 rfl ?_
      refine R_cv z43_57 (k := 59) (by decide +kernel) rfl rfl (by decide +kernel) (Nat.le_of_ble_eq_true (by rfl)) rfl ⟨rfl, trivial⟩ ?_
      refine s59 hW (jBk_ret rfl ⟨rfl, rfl⟩ ?_)
      exact R_iret z43_60 (Or.inl (by decide +kernel)) ⟨Nat.zero_le _, Nat.zero_le _⟩ (h3 ew)
    | k + 4, hk => simp at hk
  · exact R_throw z43_61 (q := (175, 200, 179, "java/lang/IllegalArgumentException", "no such count")) (X := "java/lang/IllegalArgumentException") (by decide +kernel) rfl rfl (by decide +kernel) (by decide +kernel) (hbad (w43 hx))
/-- who of the first k persons may be on a seat of c: bits -/
def cFit (A : Nat → Nat → Int32) (V : Nat → Int32) (c : Nat) (days : Int32) : Nat → Int32
  | 0 => 0
  | k + 1 => if ¬ cLap A k c - V 0 ≤ 0 ∧ ¬ days < cLap A k c - V 0 then cFit A V c days k ||| (1 : Int32) <<< (nI k &&& 31) else cFit A V c days k
theorem s60_lp {l : Launch} {E : jEnv} {A : Nat → Nat → Int32} {V : Nat → Int32} {O : Nat → Int64} {Q : jO → List jC → Prop} {c n r : Nat} {days : Int32} (hW : cWf A V n r) (hc : c < 16) (hQ : Q (.inl (some (.int (cFit A V c days 20)))) (hp A V O)) : ∀ (d k : Nat), k + d = 20 →  GO l E 60 5 [some (.ref 0), some (.int (nI c)), some (.int days), some (.int (cFit A V c days k)), some (.int (nI k)), none] [] (hp A V O) 0 0 Q := by
  intro d
  induction d with
  | zero =>
    intro k hk 
    have hn16 := hW.2.1
    have hr300 := hW.2.2.2.1
    refine R_iload z60_5 rfl ?_
    refine R_bipush z60_7 (v := 20) (by decide) ?_
    refine R_icmp z60_9 (tn := 50) rfl (fun (h9 : (20 : Int32) ≤ (nI k)) => ?_) (fun q => absurd ((show (20 : Int32) ≤ nI k by rw [n20, nge (by omega) (by omega)]; omega)) q)
    refine R_iload z60_50 rfl ?_
    exact R_iret z60_51 (Or.inl (by decide +kernel)) ⟨Nat.zero_le _, Nat.zero_le _⟩ (by rw [show k = 20 by omega]; exact hQ)
  | succ d ih =>
    intro k hk 
    have hn16 := hW.2.1
    have hr300 := hW.2.2.2.1
    refine R_iload z60_5 rfl ?_
    refine R_bipush z60_7 (v := 20) (by decide) ?_
    refine R_icmp z60_9 (tn := 50) rfl (fun q => absurd q ((show ¬ (20 : Int32) ≤ nI k by rw [n20, nge (by omega) (by omega)]; omega))) (fun (h9 : ¬ (20 : Int32) ≤ (nI k)) => ?_)
    refine R_aload z60_12 rfl ?_
    refine R_iload z60_13 rfl ?_
    refine R_iload z60_15 rfl ?_
    refine R_cv z60_16 (k := 52) (by decide +kernel) rfl rfl (by decide +kernel) (Nat.le_of_ble_eq_true (by rfl)) rfl ⟨rfl, trivial⟩ ?_
    refine s52 hW (by omega) hc (jBk_ret rfl ⟨rfl, rfl⟩ ?_)
    refine R_aload z60_19 rfl ?_
    refine R_get z60_20 (k := 3) (f := 3) (by decide +kernel) rfl rfl ?_
    refine R_isub z60_23 ?_
    refine R_istore z60_24 (loc' := [some (.ref 0), some (.int (nI c)), some (.int days), some (.int (cFit A V c days k)), some (.int (nI k)), some (.int ((cLap A k c) - (V 0)))]) rfl rfl ?_
    refine R_iload z60_26 rfl ?_
    refine R_if z60_28 (tn := 44) rfl (fun (h28 : (((cLap A k c) - (V 0)) : Int32) ≤ 0) => ?_) (fun (h28 : ¬ (((cLap A k c) - (V 0)) : Int32) ≤ 0) => ?_)
    · refine R_iinc z60_44 (v := 1) (loc' := [some (.ref 0), some (.int (nI c)), some (.int days), some (.int (cFit A V c days k)), some (.int (nI (k + 1))), some (.int ((cLap A k c) - (V 0)))]) rfl rfl (by decide) (by rw [nI_1]; rfl) ?_
      refine R_goto z60_47 (tn := 5) rfl ?_
      have e : cFit A V c days (k + 1) = cFit A V c days k := by rw [cFit, if_neg (fun z => z.1 h28)]
      have G := ih (k + 1) (by omega)
      rw [e] at G
      exact GO_loc (loc' := [some (.ref 0), some (.int (nI c)), some (.int days), some (.int (cFit A V c days k)), some (.int (nI (k + 1))), none]) (fun j v hj => by
        match j, hj with
        | 0, hj => exact hj
        | 1, hj => exact hj
        | 2, hj => exact hj
        | 3, hj => exact hj
        | 4, hj => exact hj
        | 5, hj => cases hj
        | j + 6, hj => cases hj) G
    · refine R_iload z60_31 rfl ?_
      refine R_iload z60_33 rfl ?_
      refine R_icmp z60_34 (tn := 44) rfl (fun (h34 : (days : Int32) < ((cLap A k c) - (V 0))) => ?_) (fun (h34 : ¬ (days : Int32) < ((cLap A k c) - (V 0))) => ?_)
      · refine R_iinc z60_44 (v := 1) (loc' := [some (.ref 0), some (.int (nI c)), some (.int days), some (.int (cFit A V c days k)), some (.int (nI (k + 1))), some (.int ((cLap A k c) - (V 0)))]) rfl rfl (by decide) (by rw [nI_1]; rfl) ?_
        refine R_goto z60_47 (tn := 5) rfl ?_
        have e : cFit A V c days (k + 1) = cFit A V c days k := by rw [cFit, if_neg (fun z => z.2 h34)]
        have G := ih (k + 1) (by omega)
        rw [e] at G
        exact GO_loc (loc' := [some (.ref 0), some (.int (nI c)), some (.int days), some (.int (cFit A V c days k)), some (.int (nI (k + 1))), none]) (fun j v hj => by
          match j, hj with
          | 0, hj => exact hj
          | 1, hj => exact hj
          | 2, hj => exact hj
          | 3, hj => exact hj
          | 4, hj => exact hj
          | 5, hj => cases hj
          | j + 6, hj => cases hj) G
      · refine R_iload z60_37 rfl ?_
        refine R_iconst z60_38 (v := 1) (by decide) ?_
        refine R_iload z60_39 rfl ?_
        refine R_ishl z60_41 ?_
        refine R_ior z60_42 ?_
        refine R_istore z60_43 (loc' := [some (.ref 0), some (.int (nI c)), some (.int days), some (.int ((cFit A V c days k) ||| (1 <<< ((nI k) &&& 31)))), some (.int (nI k)), some (.int ((cLap A k c) - (V 0)))]) rfl rfl ?_
        refine R_iinc z60_44 (v := 1) (loc' := [some (.ref 0), some (.int (nI c)), some (.int days), some (.int ((cFit A V c days k) ||| (1 <<< ((nI k) &&& 31)))), some (.int (nI (k + 1))), some (.int ((cLap A k c) - (V 0)))]) rfl rfl (by decide) (by rw [nI_1]; rfl) ?_
        refine R_goto z60_47 (tn := 5) rfl ?_
        have e : cFit A V c days (k + 1) = cFit A V c days k ||| (1 : Int32) <<< (nI k &&& 31) := by rw [cFit, if_pos ⟨h28, h34⟩]
        have G := ih (k + 1) (by omega)
        rw [e] at G
        exact GO_loc (loc' := [some (.ref 0), some (.int (nI c)), some (.int days), some (.int (cFit A V c days k ||| (1 : Int32) <<< (nI k &&& 31))), some (.int (nI (k + 1))), none]) (fun j v hj => by
          match j, hj with
          | 0, hj => exact hj
          | 1, hj => exact hj
          | 2, hj => exact hj
          | 3, hj => exact hj
          | 4, hj => exact hj
          | 5, hj => cases hj
          | j + 6, hj => cases hj) G
theorem s60 {l : Launch} {E : jEnv} {A : Nat → Nat → Int32} {V : Nat → Int32} {O : Nat → Int64} {Q : jO → List jC → Prop} {c n r : Nat} {days : Int32} (hW : cWf A V n r) (hc : c < 16) (hQ : Q (.inl (some (.int (cFit A V c days 20)))) (hp A V O)) : GO l E 60 0 [some (.ref 0), some (.int (nI c)), some (.int days), none, none, none] [] (hp A V O) 0 0 Q := by
  refine R_iconst z60_0 (v := 0) (by decide) ?_
  refine R_istore z60_1 (loc' := [some (.ref 0), some (.int (nI c)), some (.int days), some (.int 0), none, none]) rfl rfl ?_
  refine R_iconst z60_2 (v := 0) (by decide) ?_
  refine R_istore z60_3 (loc' := [some (.ref 0), some (.int (nI c)), some (.int days), some (.int 0), some (.int 0), none]) rfl rfl ?_
  exact s60_lp hW hc hQ 20 0 (by omega)
def cSeat (x : Int64) (k : Nat) : Int32 := ((x.toUInt64 >>> ((4 * nI k).toInt64.toUInt64 &&& Int64.toUInt64 63)).toInt64 &&& 15).toInt32
theorem s50 {l : Launch} {E : jEnv} {A : Nat → Nat → Int32} {V : Nat → Int32} {O : Nat → Int64} {Q : jO → List jC → Prop} {x : Int64} {k : Nat} (hQ : Q (.inl (some (.int (cSeat x k)))) (hp A V O)) : GO l E 50 0 [some (.long x), none, some (.int (nI k))] [] (hp A V O) 0 0 Q := by
  refine R_lload z50_0 rfl ?_
  refine R_iconst z50_1 (v := 4) (by decide) ?_
  refine R_iload z50_2 rfl ?_
  refine R_imul z50_3 ?_
  refine R_lushr z50_4 ?_
  refine R_ldc2 z50_5 (v := 15) (by decide +kernel) ?_
  refine R_land z50_8 ?_
  refine R_l2i z50_9 ?_
  exact R_iret z50_10 (Or.inl (by decide +kernel)) ⟨Nat.zero_le _, Nat.zero_le _⟩ (hQ)

theorem mPs_c {A B : Nat → Nat → Int32} (h : B 35 = A 35) : ∀ k, mPs B k = mPs A k
  | 0 => rfl
  | k + 1 => by rw [mPs, mPs, mPs_c h k, h]
theorem mToday_c {A B : Nat → Nat → Int32} {V V' : Nat → Int32} (h1 : B 33 = A 33) (h2 : B 34 = A 34) (h3 : V' 7 = V 7) (c : Nat) : ∀ k, mToday B V' c k = mToday A V c k
  | 0 => rfl
  | k + 1 => by rw [mToday, mToday, mToday_c h1 h2 h3 c k, h1, h2, h3]
theorem mHas_c {A B : Nat → Nat → Int32} (h : B 33 = A 33) (c : Int32) : ∀ k, mHas B c k = mHas A c k
  | 0 => rfl
  | k + 1 => by rw [mHas, mHas, mHas_c h c k, h]
theorem mPass_c {A B : Nat → Nat → Int32} (h1 : B 32 = A 32) (h2 : B 33 = A 33) (h3 : B 34 = A 34) (h4 : B 35 = A 35) (p c d : Int32) : ∀ k, mPass B p c d k = mPass A p c d k
  | 0 => rfl
  | k + 1 => by rw [mPass, mPass, mPass_c h1 h2 h3 h4 p c d k, h1, h2, h3, h4]
theorem mLate_c {A B : Nat → Nat → Int32} (h1 : B 32 = A 32) (h2 : B 33 = A 33) (p c : Int32) : ∀ k, mLate B p c k = mLate A p c k
  | 0 => rfl
  | k + 1 => by rw [mLate, mLate, mLate_c h1 h2 p c k, h1, h2]
theorem mFails_c {A B : Nat → Nat → Int32} (h1 : B 32 = A 32) (h2 : B 33 = A 33) (h3 : B 35 = A 35) (p c : Int32) : ∀ k, mFails B p c k = mFails A p c k
  | 0 => rfl
  | k + 1 => by rw [mFails, mFails, mFails_c h1 h2 h3 p c k, h1, h2, h3]
theorem jrg_nat {v : Int32} {a b : Nat} (h : jrg v (nI a) (nI b)) (ha : a < 20000) (hb : b < 20000) : ∃ k, a ≤ k ∧ k ≤ b ∧ v = nI k := by
  have h1 := Int32.le_iff_toInt_le.mp (Int32.not_lt.mp h.1)
  have h2 := Int32.le_iff_toInt_le.mp h.2
  rw [nI_toInt (by omega)] at h1 h2
  refine ⟨v.toInt.toNat, by omega, by omega, Int32.toInt_inj.mp ?_⟩
  rw [nI_toInt (by omega)]; omega
theorem Rel.six {A : Nat → Nat → Int32} {V : Nat → Int32} {n r D m : Nat} (h : Rel A V n r D m) (x : Int32) : Rel A (va_up V 6 x) n r D m := by
  exact Rel.mk (h.n16) (h.r300) (h.D9) (h.m12) (h.v0) (h.v1) (h.v2) (h.v3) (h.v4.trans (congrArg nI (mPs_c (A := A) (B := A) rfl r).symm)) (h.v5) (h.v7) (h.v9) (h.v10) (h.v11) (h.tm) (h.pm) (h.cp) (h.rt) (h.nd) (h.nn) (h.wy) (h.tc) (h.tz) (fun c9 hc => (h.td c9 hc).trans (congrArg nI (mToday_c (A := A) (B := A) (V := V) (V' := (va_up V 6 x)) rfl rfl rfl c9 r).symm)) (fun c9 hc => (h.st c9 hc).trans (mHas_c (A := A) (B := A) rfl _ r).symm) (h.rw) (h.fz) (fun p9 c9 hp hc => (h.lp p9 c9 hp hc).trans (mPass_c (A := A) (B := A) rfl rfl rfl rfl _ _ _ r).symm) (fun k9 hk => (h.pb k9 hk).trans (mPass_c (A := A) (B := A) rfl rfl rfl rfl _ _ _ k9).symm) (fun p9 c9 x9 hp hc hx e => h.lt p9 c9 x9 hp hc hx ((mLate_c (A := A) (B := A) rfl rfl _ _ r).symm.trans e)) (fun p9 c9 hp hc => (h.fl p9 c9 hp hc).trans (congrArg nI (mFails_c (A := A) (B := A) rfl rfl rfl _ _ r).symm)) (h.us) (h.sd)
theorem Rel.pz {A : Nat → Nat → Int32} {V : Nat → Int32} {n r D m : Nat} (h : Rel A V n r D m) (d : Int32) : Rel A (va_up (va_up (va_up V 1 d) 6 0) 8 d) n r D m := by
  exact Rel.mk (h.n16) (h.r300) (h.D9) (h.m12) (h.v0) (rfl) (h.v2) (h.v3) (h.v4.trans (congrArg nI (mPs_c (A := A) (B := A) rfl r).symm)) (h.v5) (h.v7) (h.v9) (h.v10) (h.v11) (h.tm) (h.pm) (h.cp) (h.rt) (h.nd) (h.nn) (h.wy) (h.tc) (h.tz) (fun c9 hc => (h.td c9 hc).trans (congrArg nI (mToday_c (A := A) (B := A) (V := V) (V' := (va_up (va_up (va_up V 1 d) 6 0) 8 d)) rfl rfl rfl c9 r).symm)) (fun c9 hc => (h.st c9 hc).trans (mHas_c (A := A) (B := A) rfl _ r).symm) (h.rw) (h.fz) (fun p9 c9 hp hc => (h.lp p9 c9 hp hc).trans (mPass_c (A := A) (B := A) rfl rfl rfl rfl _ _ _ r).symm) (fun k9 hk => (h.pb k9 hk).trans (mPass_c (A := A) (B := A) rfl rfl rfl rfl _ _ _ k9).symm) (fun p9 c9 x9 hp hc hx e => h.lt p9 c9 x9 hp hc hx ((mLate_c (A := A) (B := A) rfl rfl _ _ r).symm.trans e)) (fun p9 c9 hp hc => (h.fl p9 c9 hp hc).trans (congrArg nI (mFails_c (A := A) (B := A) rfl rfl rfl _ _ r).symm)) (h.us) (h.sd)
theorem Rel.day0 {A : Nat → Nat → Int32} {V : Nat → Int32} {n r D m : Nat} (h : Rel A V n r D m) {d : Int32} (hd : d = V 0) : Rel A (va_up (va_up (va_up V 0 d) 6 0) 7 d) n r D m := by
  exact Rel.mk (h.n16) (h.r300) (h.D9) (h.m12) (hd.trans h.v0) (h.v1) (h.v2) (h.v3) (h.v4.trans (congrArg nI (mPs_c (A := A) (B := A) rfl r).symm)) (h.v5) (hd.trans h.v0) (h.v9) (h.v10) (h.v11) (h.tm) (h.pm) (h.cp) (h.rt) (h.nd) (h.nn) (h.wy) (h.tc) (h.tz) (fun c hc => (h.td c hc).trans (congrArg nI (mToday_c (A := A) (B := A) (V := V) (V' := (va_up (va_up (va_up V 0 d) 6 0) 7 d)) rfl rfl (hd.trans (h.v0.trans h.v7.symm)) c r).symm)) (fun c9 hc => (h.st c9 hc).trans (mHas_c (A := A) (B := A) rfl _ r).symm) (h.rw) (h.fz) (fun p9 c9 hp hc => (h.lp p9 c9 hp hc).trans (mPass_c (A := A) (B := A) rfl rfl rfl rfl _ _ _ r).symm) (fun k9 hk => (h.pb k9 hk).trans (mPass_c (A := A) (B := A) rfl rfl rfl rfl _ _ _ k9).symm) (fun p9 c9 x9 hp hc hx e => h.lt p9 c9 x9 hp hc hx ((mLate_c (A := A) (B := A) rfl rfl _ _ r).symm.trans e)) (fun p9 c9 hp hc => (h.fl p9 c9 hp hc).trans (congrArg nI (mFails_c (A := A) (B := A) rfl rfl rfl _ _ r).symm)) (h.us) (h.sd)
theorem mToday_0 {A : Nat → Nat → Int32} {V : Nat → Int32} (c : Nat) : ∀ k, (∀ j, j < k → ¬ A 34 j = V 7) → mToday A V c k = 0
  | 0, _ => rfl
  | k + 1, h => by rw [mToday, mToday_0 c k (fun j hj => h j (by omega)), if_neg (fun z => h k (by omega) z.2)]
theorem Rel.days {A : Nat → Nat → Int32} {V : Nat → Int32} {n r D m D2 : Nat} (h : Rel A V n r D m) (h1 : D < D2) (h2 : D2 ≤ 9999) (k : Nat) (hk : k ≤ r) : ∀ j, j < k → A 34 j ≤ nI D ∧ A 34 j ≤ nI D2 := by
  intro j hj
  obtain ⟨p, c, w, u, t, g1, g2, g3, g4, g5, g6, g7, g8, _⟩ := h.rw j (by omega)
  have := h.D9
  rw [g8, nge (by omega) (by omega), nge (by omega) (by omega)]
  omega
theorem Rel.day1 {A : Nat → Nat → Int32} {V : Nat → Int32} {n r D m : Nat} (h : Rel A V n r D m) {d : Int32} {D2 : Nat} (hd : d = nI D2) (h1 : D < D2) (h2 : D2 ≤ 9999) : Rel (va_up A 9 (jfil (A 9) 0 16)) (va_up (va_up (va_up V 0 d) 6 0) 7 d) n r D2 m := by
  refine Rel.mk (h.n16) (h.r300) (h2) (h.m12) (hd) (h.v1) (h.v2) (h.v3) (h.v4.trans (congrArg nI (mPs_c (A := A) (B := (va_up A 9 (jfil (A 9) 0 16))) rfl r).symm)) (h.v5) (hd) (h.v9) (h.v10) (h.v11) (h.tm) (h.pm) (h.cp) (h.rt) (h.nd) (h.nn) (h.wy) (h.tc) (h.tz) (fun c hc => ?_) (fun c9 hc => (h.st c9 hc).trans (mHas_c (A := A) (B := (va_up A 9 (jfil (A 9) 0 16))) rfl _ r).symm) (fun k hk => ?_) (h.fz) (fun p c hp hc => ?_) (fun k hk => ?_) (fun p9 c9 x9 hp hc hx e => h.lt p9 c9 x9 hp hc hx ((mLate_c (A := A) (B := (va_up A 9 (jfil (A 9) 0 16))) rfl rfl _ _ r).symm.trans e)) (fun p9 c9 hp hc => (h.fl p9 c9 hp hc).trans (congrArg nI (mFails_c (A := A) (B := (va_up A 9 (jfil (A 9) 0 16))) rfl rfl rfl _ _ r).symm)) (h.us) (h.sd)
  · have e : mToday (va_up A 9 (jfil (A 9) 0 16)) (va_up (va_up (va_up V 0 d) 6 0) 7 d) c r = 0 := mToday_0 c r (fun j hj z => by
      obtain ⟨p, c, w, u, t, g1, g2, g3, g4, g5, g6, g7, g8, _⟩ := h.rw j hj
      have := h.D9
      have z2 : A 34 j = d := z
      rw [g8, hd, nI_eq (by omega) (by omega)] at z2
      omega)
    rw [e]
    exact if_pos hc
  · obtain ⟨p, c, w, u, t, g1, g2, g3, g4, g5, g6, g7, g8, g9, g10, g11, g12, g13⟩ := h.rw k hk
    exact ⟨p, c, w, u, t, g1, g2, by omega, g4, g5, g6, g7, g8, g9, g10, g11, g12, fun j hj => by
      obtain ⟨x, x1, x2, x3⟩ := g13 j hj
      exact ⟨x, x1, by omega, x3⟩⟩
  · rw [mPass_c (A := A) (B := (va_up A 9 (jfil (A 9) 0 16))) rfl rfl rfl rfl, ← mPass_big (d := nI D) (d' := nI D2) r (h.days h1 h2 r (Nat.le_refl _))]
    exact h.lp p c hp hc
  · show A 13 k = mPass (va_up A 9 (jfil (A 9) 0 16)) (A 32 k) (A 33 k) (nI D2) k
    rw [mPass_c (A := A) (B := (va_up A 9 (jfil (A 9) 0 16))) rfl rfl rfl rfl, ← mPass_big (d := nI D) (d' := nI D2) k (h.days h1 h2 k (by omega))]
    exact h.pb k hk
theorem Rel.rat {A : Nat → Nat → Int32} {V : Nat → Int32} {n r D m : Nat} (h : Rel A V n r D m) {c2 : Nat} {x : Int32} : Rel (va_up (va_up A 5 (upd (A 5) c2 x)) 29 (upd (A 29) c2 x)) (va_up V 6 0) n r D m := by
  refine Rel.mk (h.n16) (h.r300) (h.D9) (h.m12) (h.v0) (h.v1) (h.v2) (h.v3) (h.v4.trans (congrArg nI (mPs_c (A := A) (B := (va_up (va_up A 5 (upd (A 5) c2 x)) 29 (upd (A 29) c2 x))) rfl r).symm)) (h.v5) (h.v7) (h.v9) (h.v10) (h.v11) (h.tm) (h.pm) (h.cp) (fun c hc => ?_) (h.nd) (h.nn) (h.wy) (h.tc) (h.tz) (fun c9 hc => (h.td c9 hc).trans (congrArg nI (mToday_c (A := A) (B := (va_up (va_up A 5 (upd (A 5) c2 x)) 29 (upd (A 29) c2 x))) (V := V) (V' := (va_up V 6 0)) rfl rfl rfl c9 r).symm)) (fun c9 hc => (h.st c9 hc).trans (mHas_c (A := A) (B := (va_up (va_up A 5 (upd (A 5) c2 x)) 29 (upd (A 29) c2 x))) rfl _ r).symm) (h.rw) (h.fz) (fun p9 c9 hp hc => (h.lp p9 c9 hp hc).trans (mPass_c (A := A) (B := (va_up (va_up A 5 (upd (A 5) c2 x)) 29 (upd (A 29) c2 x))) rfl rfl rfl rfl _ _ _ r).symm) (fun k9 hk => (h.pb k9 hk).trans (mPass_c (A := A) (B := (va_up (va_up A 5 (upd (A 5) c2 x)) 29 (upd (A 29) c2 x))) rfl rfl rfl rfl _ _ _ k9).symm) (fun p9 c9 x9 hp hc hx e => h.lt p9 c9 x9 hp hc hx ((mLate_c (A := A) (B := (va_up (va_up A 5 (upd (A 5) c2 x)) 29 (upd (A 29) c2 x))) rfl rfl _ _ r).symm.trans e)) (fun p9 c9 hp hc => (h.fl p9 c9 hp hc).trans (congrArg nI (mFails_c (A := A) (B := (va_up (va_up A 5 (upd (A 5) c2 x)) 29 (upd (A 29) c2 x))) rfl rfl rfl _ _ r).symm)) (h.us) (h.sd)
  show upd (A 29) c2 x c = upd (A 5) c2 x c
  by_cases z : c = c2
  · subst z; rw [upd_at, upd_at]
  · rw [upd_ne z, upd_ne z]; exact h.rt c hc
theorem Rel.crs {A : Nat → Nat → Int32} {V : Nat → Int32} {n r D m : Nat} (h : Rel A V n r D m) {t p c : Int32} (hj : jrg t 1 2000 ∧ jrg p 0 100 ∧ jrg c 0 50) (hn : n < 16) : Rel (mCrs (cCrs A n t p c) n t p c) (va_up (va_up (va_up V 2 (nI (n + 1))) 6 0) 9 (nI (n + 1))) (n + 1) r D m := by
  obtain ⟨tn, t1, t2, et⟩ := jrg_nat (a := 1) (b := 2000) hj.1 (by decide) (by decide)
  obtain ⟨cn, c1, c3, ec⟩ := jrg_nat (a := 0) (b := 50) hj.2.2 (by decide) (by decide)
  refine Rel.mk (by omega) (h.r300) (h.D9) (h.m12) (h.v0) (h.v1) (rfl) (h.v3) (h.v4.trans (congrArg nI (mPs_c (A := A) (B := (mCrs (cCrs A n t p c) n t p c)) rfl r).symm)) (h.v5) (h.v7) (rfl) (h.v10) (h.v11) (fun c2 hc => ?_) (fun c2 hc => ?_) (fun c2 hc => ?_) (fun c2 hc => ?_) (h.nd) (fun c2 o hc ho e => ?_) (h.wy) (h.tc) (h.tz) (fun c9 hc => (h.td c9 hc).trans (congrArg nI (mToday_c (A := A) (B := (mCrs (cCrs A n t p c) n t p c)) (V := V) (V' := (va_up (va_up (va_up V 2 (nI (n + 1))) 6 0) 9 (nI (n + 1)))) rfl rfl rfl c9 r).symm)) (fun c9 hc => (h.st c9 hc).trans (mHas_c (A := A) (B := (mCrs (cCrs A n t p c) n t p c)) rfl _ r).symm) (fun k hk => ?_) (h.fz) (fun p9 c9 hp hc => (h.lp p9 c9 hp hc).trans (mPass_c (A := A) (B := (mCrs (cCrs A n t p c) n t p c)) rfl rfl rfl rfl _ _ _ r).symm) (fun k9 hk => (h.pb k9 hk).trans (mPass_c (A := A) (B := (mCrs (cCrs A n t p c) n t p c)) rfl rfl rfl rfl _ _ _ k9).symm) (fun p9 c9 x9 hp hc hx e => h.lt p9 c9 x9 hp hc hx ((mLate_c (A := A) (B := (mCrs (cCrs A n t p c) n t p c)) rfl rfl _ _ r).symm.trans e)) (fun p9 c9 hp hc => (h.fl p9 c9 hp hc).trans (congrArg nI (mFails_c (A := A) (B := (mCrs (cCrs A n t p c) n t p c)) rfl rfl rfl _ _ r).symm)) (h.us) (h.sd)
  · by_cases z : c2 = n
    · subst z; exact ⟨tn, t2, upd_at.trans et, upd_at.trans et⟩
    · obtain ⟨a, a1, a2, a3⟩ := h.tm c2 (by omega)
      exact ⟨a, a1, (upd_ne z).trans a2, (upd_ne z).trans a3⟩
  · show upd (A 3) n p c2 = upd (A 27) n p c2
    by_cases z : c2 = n
    · subst z; rw [upd_at, upd_at]
    · rw [upd_ne z, upd_ne z]; exact h.pm c2 (by omega)
  · by_cases z : c2 = n
    · subst z; exact ⟨cn, c3, upd_at.trans ec, upd_at.trans ec⟩
    · obtain ⟨a, a1, a2, a3⟩ := h.cp c2 (by omega)
      exact ⟨a, a1, (upd_ne z).trans a2, (upd_ne z).trans a3⟩
  · show upd (A 29) n 3 c2 = upd (A 5) n 3 c2
    by_cases z : c2 = n
    · subst z; rw [upd_at, upd_at]
    · rw [upd_ne z, upd_ne z]; exact h.rt c2 (by omega)
  · have := h.nn c2 o hc ho e
    omega
  · obtain ⟨p2, c2, w, u, t3, g1, g2, g3, g4, g5, g6, g7, g8, g9, g10, g11, g12, g13⟩ := h.rw k hk
    exact ⟨p2, c2, w, u, t3, g1, by omega, g3, g4, g5, g6, g7, g8, g9, g10, g11, (upd_ne (by omega)).trans g12, g13⟩
theorem Rel.tch1 {A : Nat → Nat → Int32} {V : Nat → Int32} {n r D m : Nat} (h : Rel A V n r D m) {p2 c2 : Nat} (hp2 : p2 < 20) (hc2 : c2 < 16) (hb : ¬ jbit (A 8 c2) (nI p2)) : Rel (va_up (va_up A 8 (upd (A 8) c2 (A 8 c2 ^^^ (1 : Int32) <<< (nI p2 &&& 31)))) 31 (upd (A 31) (16 * p2 + c2) 1)) (va_up V 6 0) n r D m := by
  refine Rel.mk (h.n16) (h.r300) (h.D9) (h.m12) (h.v0) (h.v1) (h.v2) (h.v3) (h.v4.trans (congrArg nI (mPs_c (A := A) (B := (va_up (va_up A 8 (upd (A 8) c2 (A 8 c2 ^^^ (1 : Int32) <<< (nI p2 &&& 31)))) 31 (upd (A 31) (16 * p2 + c2) 1))) rfl r).symm)) (h.v5) (h.v7) (h.v9) (h.v10) (h.v11) (h.tm) (h.pm) (h.cp) (h.rt) (h.nd) (h.nn) (h.wy) (fun p c hp hc => ?_) (fun p c hp hc => ?_) (fun c9 hc => (h.td c9 hc).trans (congrArg nI (mToday_c (A := A) (B := (va_up (va_up A 8 (upd (A 8) c2 (A 8 c2 ^^^ (1 : Int32) <<< (nI p2 &&& 31)))) 31 (upd (A 31) (16 * p2 + c2) 1))) (V := V) (V' := (va_up V 6 0)) rfl rfl rfl c9 r).symm)) (fun c9 hc => (h.st c9 hc).trans (mHas_c (A := A) (B := (va_up (va_up A 8 (upd (A 8) c2 (A 8 c2 ^^^ (1 : Int32) <<< (nI p2 &&& 31)))) 31 (upd (A 31) (16 * p2 + c2) 1))) rfl _ r).symm) (h.rw) (h.fz) (fun p9 c9 hp hc => (h.lp p9 c9 hp hc).trans (mPass_c (A := A) (B := (va_up (va_up A 8 (upd (A 8) c2 (A 8 c2 ^^^ (1 : Int32) <<< (nI p2 &&& 31)))) 31 (upd (A 31) (16 * p2 + c2) 1))) rfl rfl rfl rfl _ _ _ r).symm) (fun k9 hk => (h.pb k9 hk).trans (mPass_c (A := A) (B := (va_up (va_up A 8 (upd (A 8) c2 (A 8 c2 ^^^ (1 : Int32) <<< (nI p2 &&& 31)))) 31 (upd (A 31) (16 * p2 + c2) 1))) rfl rfl rfl rfl _ _ _ k9).symm) (fun p9 c9 x9 hp hc hx e => h.lt p9 c9 x9 hp hc hx ((mLate_c (A := A) (B := (va_up (va_up A 8 (upd (A 8) c2 (A 8 c2 ^^^ (1 : Int32) <<< (nI p2 &&& 31)))) 31 (upd (A 31) (16 * p2 + c2) 1))) rfl rfl _ _ r).symm.trans e)) (fun p9 c9 hp hc => (h.fl p9 c9 hp hc).trans (congrArg nI (mFails_c (A := A) (B := (va_up (va_up A 8 (upd (A 8) c2 (A 8 c2 ^^^ (1 : Int32) <<< (nI p2 &&& 31)))) 31 (upd (A 31) (16 * p2 + c2) 1))) rfl rfl rfl _ _ r).symm)) (h.us) (h.sd)
  · show jbit (upd (A 8) c2 (A 8 c2 ^^^ (1 : Int32) <<< (nI p2 &&& 31)) c) (nI p) ↔ upd (A 31) (16 * p2 + c2) 1 (16 * p + c) = 1
    by_cases z : c = c2
    · subst z
      rw [upd_at, jbit_xor1 (by omega) (by omega)]
      by_cases y : p2 = p
      · subst y
        rw [if_pos rfl, upd_at]
        exact ⟨fun _ => rfl, fun _ => hb⟩
      · rw [if_neg y, upd_ne (by omega)]; exact h.tc p c hp hc
    · rw [upd_ne z, upd_ne (by omega)]; exact h.tc p c hp hc
  · show upd (A 31) (16 * p2 + c2) 1 (16 * p + c) = 0 ∨ upd (A 31) (16 * p2 + c2) 1 (16 * p + c) = 1
    by_cases z : 16 * p + c = 16 * p2 + c2
    · rw [z, upd_at]; exact Or.inr rfl
    · rw [upd_ne z]; exact h.tz p c hp hc
theorem Rel.tch0 {A : Nat → Nat → Int32} {V : Nat → Int32} {n r D m : Nat} (h : Rel A V n r D m) {p2 c2 : Nat} (hp2 : p2 < 20) (hc2 : c2 < 16) (hb :  jbit (A 8 c2) (nI p2)) : Rel (va_up (va_up A 8 (upd (A 8) c2 (A 8 c2 ^^^ (1 : Int32) <<< (nI p2 &&& 31)))) 31 (upd (A 31) (16 * p2 + c2) 0)) (va_up V 6 0) n r D m := by
  refine Rel.mk (h.n16) (h.r300) (h.D9) (h.m12) (h.v0) (h.v1) (h.v2) (h.v3) (h.v4.trans (congrArg nI (mPs_c (A := A) (B := (va_up (va_up A 8 (upd (A 8) c2 (A 8 c2 ^^^ (1 : Int32) <<< (nI p2 &&& 31)))) 31 (upd (A 31) (16 * p2 + c2) 0))) rfl r).symm)) (h.v5) (h.v7) (h.v9) (h.v10) (h.v11) (h.tm) (h.pm) (h.cp) (h.rt) (h.nd) (h.nn) (h.wy) (fun p c hp hc => ?_) (fun p c hp hc => ?_) (fun c9 hc => (h.td c9 hc).trans (congrArg nI (mToday_c (A := A) (B := (va_up (va_up A 8 (upd (A 8) c2 (A 8 c2 ^^^ (1 : Int32) <<< (nI p2 &&& 31)))) 31 (upd (A 31) (16 * p2 + c2) 0))) (V := V) (V' := (va_up V 6 0)) rfl rfl rfl c9 r).symm)) (fun c9 hc => (h.st c9 hc).trans (mHas_c (A := A) (B := (va_up (va_up A 8 (upd (A 8) c2 (A 8 c2 ^^^ (1 : Int32) <<< (nI p2 &&& 31)))) 31 (upd (A 31) (16 * p2 + c2) 0))) rfl _ r).symm) (h.rw) (h.fz) (fun p9 c9 hp hc => (h.lp p9 c9 hp hc).trans (mPass_c (A := A) (B := (va_up (va_up A 8 (upd (A 8) c2 (A 8 c2 ^^^ (1 : Int32) <<< (nI p2 &&& 31)))) 31 (upd (A 31) (16 * p2 + c2) 0))) rfl rfl rfl rfl _ _ _ r).symm) (fun k9 hk => (h.pb k9 hk).trans (mPass_c (A := A) (B := (va_up (va_up A 8 (upd (A 8) c2 (A 8 c2 ^^^ (1 : Int32) <<< (nI p2 &&& 31)))) 31 (upd (A 31) (16 * p2 + c2) 0))) rfl rfl rfl rfl _ _ _ k9).symm) (fun p9 c9 x9 hp hc hx e => h.lt p9 c9 x9 hp hc hx ((mLate_c (A := A) (B := (va_up (va_up A 8 (upd (A 8) c2 (A 8 c2 ^^^ (1 : Int32) <<< (nI p2 &&& 31)))) 31 (upd (A 31) (16 * p2 + c2) 0))) rfl rfl _ _ r).symm.trans e)) (fun p9 c9 hp hc => (h.fl p9 c9 hp hc).trans (congrArg nI (mFails_c (A := A) (B := (va_up (va_up A 8 (upd (A 8) c2 (A 8 c2 ^^^ (1 : Int32) <<< (nI p2 &&& 31)))) 31 (upd (A 31) (16 * p2 + c2) 0))) rfl rfl rfl _ _ r).symm)) (h.us) (h.sd)
  · show jbit (upd (A 8) c2 (A 8 c2 ^^^ (1 : Int32) <<< (nI p2 &&& 31)) c) (nI p) ↔ upd (A 31) (16 * p2 + c2) 0 (16 * p + c) = 1
    by_cases z : c = c2
    · subst z
      rw [upd_at, jbit_xor1 (by omega) (by omega)]
      by_cases y : p2 = p
      · subst y
        rw [if_pos rfl, upd_at]
        exact ⟨fun y => absurd hb y, fun y => absurd y (by decide)⟩
      · rw [if_neg y, upd_ne (by omega)]; exact h.tc p c hp hc
    · rw [upd_ne z, upd_ne (by omega)]; exact h.tc p c hp hc
  · show upd (A 31) (16 * p2 + c2) 0 (16 * p + c) = 0 ∨ upd (A 31) (16 * p2 + c2) 0 (16 * p + c) = 1
    by_cases z : 16 * p + c = 16 * p2 + c2
    · rw [z, upd_at]; exact Or.inl rfl
    · rw [upd_ne z]; exact h.tz p c hp hc

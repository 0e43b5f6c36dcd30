/-- both sides' arrays stand for the same run -/
def Rel (A : Nat → Nat → Int32) (V : Nat → Int32) (n r D m : Nat) : Prop := (n ≤ 16) ∧ (r ≤ 300) ∧ (D ≤ 9999) ∧ (m ≤ 12) ∧ (V 0 = nI D) ∧ (V 1 = V 8) ∧ (V 2 = nI n) ∧ (V 3 = nI r) ∧ (V 4 = nI (mPs A r)) ∧ (V 5 = nI m) ∧ (V 7 = nI D) ∧ (V 9 = nI n) ∧ (V 10 = nI r) ∧ (V 11 = nI m) ∧ (∀ c, c < n → ∃ t, t ≤ 2000 ∧ A 26 c = nI t ∧ A 2 c = nI t) ∧ (∀ c, c < n → A 3 c = A 27 c) ∧ (∀ c, c < n → ∃ t, t ≤ 50 ∧ A 28 c = nI t ∧ A 4 c = nI t) ∧ (∀ c, c < n → A 29 c = A 5 c) ∧ (∀ c o, c < 16 → o < 16 → (jbit (A 6 c) (nI o) ↔ ¬ A 30 (16 * c + o) = 0)) ∧ (∀ c o, c < 16 → o < 16 → ¬ A 30 (16 * c + o) = 0 → c < n ∧ o < n) ∧ (∀ c o, c < 16 → o < 16 → (jbit (A 7 c) (nI o) ↔ ∃ a, a < 16 ∧ ¬ A 30 (16 * c + a) = 0 ∧ mReach A a o)) ∧ (∀ p c, p < 20 → c < 16 → (jbit (A 8 c) (nI p) ↔ A 31 (16 * p + c) = 1)) ∧ (∀ p c, p < 20 → c < 16 → A 31 (16 * p + c) = 0 ∨ A 31 (16 * p + c) = 1) ∧ (∀ c, c < 16 → A 9 c = nI (mToday A V c r)) ∧ (∀ c, c < 16 → A 10 c = mHas A (nI c) r) ∧ (∀ k, k < r → ∃ p c w u t, p < 20 ∧ c < n ∧ w ≤ D ∧ u ≤ 50 ∧ t ≤ 2000 ∧ A 32 k = nI p ∧ A 33 k = nI c ∧ A 34 k = nI w ∧ A 12 k = nI w ∧ A 36 k = nI u ∧ A 14 k = nI u ∧ A 26 c = nI t ∧ ∀ j, j < u → ∃ x, A 37 (50 * k + j) = nI x ∧ x ≤ D ∧ x < w + t + j) ∧ (∀ k, r ≤ k → k < 300 → A 14 k = 0 ∧ A 36 k = 0) ∧ (∀ p c, p < 20 → c < 16 → A 15 (16 * p + c) = mPass A (nI p) (nI c) (nI D) r) ∧ (∀ k, k < r → A 13 k = mPass A (A 32 k) (A 33 k) (nI D) k) ∧ (∀ p c x, p < 20 → c < 16 → x < r → mLate A (nI p) (nI c) r = nI x → A 16 (16 * p + c) = A 34 x) ∧ (∀ p c, p < 20 → c < 16 → A 17 (16 * p + c) = nI (mFails A (nI p) (nI c) r)) ∧ (∀ q, q < 320 → A 18 q = A 38 q) ∧ (∀ s, s < m → A 21 s = A 39 s)
theorem Rel.n16 {A : Nat → Nat → Int32} {V : Nat → Int32} {n r D m : Nat} (h : Rel A V n r D m) : n ≤ 16 := h.1
theorem Rel.r300 {A : Nat → Nat → Int32} {V : Nat → Int32} {n r D m : Nat} (h : Rel A V n r D m) : r ≤ 300 := h.2.1
theorem Rel.D9 {A : Nat → Nat → Int32} {V : Nat → Int32} {n r D m : Nat} (h : Rel A V n r D m) : D ≤ 9999 := h.2.2.1
theorem Rel.m12 {A : Nat → Nat → Int32} {V : Nat → Int32} {n r D m : Nat} (h : Rel A V n r D m) : m ≤ 12 := h.2.2.2.1
theorem Rel.v0 {A : Nat → Nat → Int32} {V : Nat → Int32} {n r D m : Nat} (h : Rel A V n r D m) : V 0 = nI D := h.2.2.2.2.1
theorem Rel.v1 {A : Nat → Nat → Int32} {V : Nat → Int32} {n r D m : Nat} (h : Rel A V n r D m) : V 1 = V 8 := h.2.2.2.2.2.1
theorem Rel.v2 {A : Nat → Nat → Int32} {V : Nat → Int32} {n r D m : Nat} (h : Rel A V n r D m) : V 2 = nI n := h.2.2.2.2.2.2.1
theorem Rel.v3 {A : Nat → Nat → Int32} {V : Nat → Int32} {n r D m : Nat} (h : Rel A V n r D m) : V 3 = nI r := h.2.2.2.2.2.2.2.1
theorem Rel.v4 {A : Nat → Nat → Int32} {V : Nat → Int32} {n r D m : Nat} (h : Rel A V n r D m) : V 4 = nI (mPs A r) := h.2.2.2.2.2.2.2.2.1
theorem Rel.v5 {A : Nat → Nat → Int32} {V : Nat → Int32} {n r D m : Nat} (h : Rel A V n r D m) : V 5 = nI m := h.2.2.2.2.2.2.2.2.2.1
theorem Rel.v7 {A : Nat → Nat → Int32} {V : Nat → Int32} {n r D m : Nat} (h : Rel A V n r D m) : V 7 = nI D := h.2.2.2.2.2.2.2.2.2.2.1
theorem Rel.v9 {A : Nat → Nat → Int32} {V : Nat → Int32} {n r D m : Nat} (h : Rel A V n r D m) : V 9 = nI n := h.2.2.2.2.2.2.2.2.2.2.2.1
theorem Rel.v10 {A : Nat → Nat → Int32} {V : Nat → Int32} {n r D m : Nat} (h : Rel A V n r D m) : V 10 = nI r := h.2.2.2.2.2.2.2.2.2.2.2.2.1
theorem Rel.v11 {A : Nat → Nat → Int32} {V : Nat → Int32} {n r D m : Nat} (h : Rel A V n r D m) : V 11 = nI m := h.2.2.2.2.2.2.2.2.2.2.2.2.2.1
theorem Rel.tm {A : Nat → Nat → Int32} {V : Nat → Int32} {n r D m : Nat} (h : Rel A V n r D m) : ∀ c, c < n → ∃ t, t ≤ 2000 ∧ A 26 c = nI t ∧ A 2 c = nI t := h.2.2.2.2.2.2.2.2.2.2.2.2.2.2.1
theorem Rel.pm {A : Nat → Nat → Int32} {V : Nat → Int32} {n r D m : Nat} (h : Rel A V n r D m) : ∀ c, c < n → A 3 c = A 27 c := h.2.2.2.2.2.2.2.2.2.2.2.2.2.2.2.1
theorem Rel.cp {A : Nat → Nat → Int32} {V : Nat → Int32} {n r D m : Nat} (h : Rel A V n r D m) : ∀ c, c < n → ∃ t, t ≤ 50 ∧ A 28 c = nI t ∧ A 4 c = nI t := h.2.2.2.2.2.2.2.2.2.2.2.2.2.2.2.2.1
theorem Rel.rt {A : Nat → Nat → Int32} {V : Nat → Int32} {n r D m : Nat} (h : Rel A V n r D m) : ∀ c, c < n → A 29 c = A 5 c := h.2.2.2.2.2.2.2.2.2.2.2.2.2.2.2.2.2.1
theorem Rel.nd {A : Nat → Nat → Int32} {V : Nat → Int32} {n r D m : Nat} (h : Rel A V n r D m) : ∀ c o, c < 16 → o < 16 → (jbit (A 6 c) (nI o) ↔ ¬ A 30 (16 * c + o) = 0) := h.2.2.2.2.2.2.2.2.2.2.2.2.2.2.2.2.2.2.1
theorem Rel.nn {A : Nat → Nat → Int32} {V : Nat → Int32} {n r D m : Nat} (h : Rel A V n r D m) : ∀ c o, c < 16 → o < 16 → ¬ A 30 (16 * c + o) = 0 → c < n ∧ o < n := h.2.2.2.2.2.2.2.2.2.2.2.2.2.2.2.2.2.2.2.1
theorem Rel.wy {A : Nat → Nat → Int32} {V : Nat → Int32} {n r D m : Nat} (h : Rel A V n r D m) : ∀ c o, c < 16 → o < 16 → (jbit (A 7 c) (nI o) ↔ ∃ a, a < 16 ∧ ¬ A 30 (16 * c + a) = 0 ∧ mReach A a o) := h.2.2.2.2.2.2.2.2.2.2.2.2.2.2.2.2.2.2.2.2.1
theorem Rel.tc {A : Nat → Nat → Int32} {V : Nat → Int32} {n r D m : Nat} (h : Rel A V n r D m) : ∀ p c, p < 20 → c < 16 → (jbit (A 8 c) (nI p) ↔ A 31 (16 * p + c) = 1) := h.2.2.2.2.2.2.2.2.2.2.2.2.2.2.2.2.2.2.2.2.2.1
theorem Rel.tz {A : Nat → Nat → Int32} {V : Nat → Int32} {n r D m : Nat} (h : Rel A V n r D m) : ∀ p c, p < 20 → c < 16 → A 31 (16 * p + c) = 0 ∨ A 31 (16 * p + c) = 1 := h.2.2.2.2.2.2.2.2.2.2.2.2.2.2.2.2.2.2.2.2.2.2.1
theorem Rel.td {A : Nat → Nat → Int32} {V : Nat → Int32} {n r D m : Nat} (h : Rel A V n r D m) : ∀ c, c < 16 → A 9 c = nI (mToday A V c r) := h.2.2.2.2.2.2.2.2.2.2.2.2.2.2.2.2.2.2.2.2.2.2.2.1
theorem Rel.st {A : Nat → Nat → Int32} {V : Nat → Int32} {n r D m : Nat} (h : Rel A V n r D m) : ∀ c, c < 16 → A 10 c = mHas A (nI c) r := h.2.2.2.2.2.2.2.2.2.2.2.2.2.2.2.2.2.2.2.2.2.2.2.2.1
theorem Rel.rw {A : Nat → Nat → Int32} {V : Nat → Int32} {n r D m : Nat} (h : Rel A V n r D m) : ∀ k, k < r → ∃ p c w u t, p < 20 ∧ c < n ∧ w ≤ D ∧ u ≤ 50 ∧ t ≤ 2000 ∧ A 32 k = nI p ∧ A 33 k = nI c ∧ A 34 k = nI w ∧ A 12 k = nI w ∧ A 36 k = nI u ∧ A 14 k = nI u ∧ A 26 c = nI t ∧ ∀ j, j < u → ∃ x, A 37 (50 * k + j) = nI x ∧ x ≤ D ∧ x < w + t + j := h.2.2.2.2.2.2.2.2.2.2.2.2.2.2.2.2.2.2.2.2.2.2.2.2.2.1
theorem Rel.fz {A : Nat → Nat → Int32} {V : Nat → Int32} {n r D m : Nat} (h : Rel A V n r D m) : ∀ k, r ≤ k → k < 300 → A 14 k = 0 ∧ A 36 k = 0 := h.2.2.2.2.2.2.2.2.2.2.2.2.2.2.2.2.2.2.2.2.2.2.2.2.2.2.1
theorem Rel.lp {A : Nat → Nat → Int32} {V : Nat → Int32} {n r D m : Nat} (h : Rel A V n r D m) : ∀ p c, p < 20 → c < 16 → A 15 (16 * p + c) = mPass A (nI p) (nI c) (nI D) r := h.2.2.2.2.2.2.2.2.2.2.2.2.2.2.2.2.2.2.2.2.2.2.2.2.2.2.2.1
theorem Rel.pb {A : Nat → Nat → Int32} {V : Nat → Int32} {n r D m : Nat} (h : Rel A V n r D m) : ∀ k, k < r → A 13 k = mPass A (A 32 k) (A 33 k) (nI D) k := h.2.2.2.2.2.2.2.2.2.2.2.2.2.2.2.2.2.2.2.2.2.2.2.2.2.2.2.2.1
theorem Rel.lt {A : Nat → Nat → Int32} {V : Nat → Int32} {n r D m : Nat} (h : Rel A V n r D m) : ∀ p c x, p < 20 → c < 16 → x < r → mLate A (nI p) (nI c) r = nI x → A 16 (16 * p + c) = A 34 x := h.2.2.2.2.2.2.2.2.2.2.2.2.2.2.2.2.2.2.2.2.2.2.2.2.2.2.2.2.2.1
theorem Rel.fl {A : Nat → Nat → Int32} {V : Nat → Int32} {n r D m : Nat} (h : Rel A V n r D m) : ∀ p c, p < 20 → c < 16 → A 17 (16 * p + c) = nI (mFails A (nI p) (nI c) r) := h.2.2.2.2.2.2.2.2.2.2.2.2.2.2.2.2.2.2.2.2.2.2.2.2.2.2.2.2.2.2.1
theorem Rel.us {A : Nat → Nat → Int32} {V : Nat → Int32} {n r D m : Nat} (h : Rel A V n r D m) : ∀ q, q < 320 → A 18 q = A 38 q := h.2.2.2.2.2.2.2.2.2.2.2.2.2.2.2.2.2.2.2.2.2.2.2.2.2.2.2.2.2.2.2.1
theorem Rel.sd {A : Nat → Nat → Int32} {V : Nat → Int32} {n r D m : Nat} (h : Rel A V n r D m) : ∀ s, s < m → A 21 s = A 39 s := h.2.2.2.2.2.2.2.2.2.2.2.2.2.2.2.2.2.2.2.2.2.2.2.2.2.2.2.2.2.2.2.2
theorem Rel.mk {A : Nat → Nat → Int32} {V : Nat → Int32} {n r D m : Nat} (n16 : n ≤ 16) (r300 : r ≤ 300) (D9 : D ≤ 9999) (m12 : m ≤ 12) (v0 : V 0 = nI D) (v1 : V 1 = V 8) (v2 : V 2 = nI n) (v3 : V 3 = nI r) (v4 : V 4 = nI (mPs A r)) (v5 : V 5 = nI m) (v7 : V 7 = nI D) (v9 : V 9 = nI n) (v10 : V 10 = nI r) (v11 : V 11 = nI m) (tm : ∀ c, c < n → ∃ t, t ≤ 2000 ∧ A 26 c = nI t ∧ A 2 c = nI t) (pm : ∀ c, c < n → A 3 c = A 27 c) (cp : ∀ c, c < n → ∃ t, t ≤ 50 ∧ A 28 c = nI t ∧ A 4 c = nI t) (rt : ∀ c, c < n → A 29 c = A 5 c) (nd : ∀ c o, c < 16 → o < 16 → (jbit (A 6 c) (nI o) ↔ ¬ A 30 (16 * c + o) = 0)) (nn : ∀ c o, c < 16 → o < 16 → ¬ A 30 (16 * c + o) = 0 → c < n ∧ o < n) (wy : ∀ c o, c < 16 → o < 16 → (jbit (A 7 c) (nI o) ↔ ∃ a, a < 16 ∧ ¬ A 30 (16 * c + a) = 0 ∧ mReach A a o)) (tc : ∀ p c, p < 20 → c < 16 → (jbit (A 8 c) (nI p) ↔ A 31 (16 * p + c) = 1)) (tz : ∀ p c, p < 20 → c < 16 → A 31 (16 * p + c) = 0 ∨ A 31 (16 * p + c) = 1) (td : ∀ c, c < 16 → A 9 c = nI (mToday A V c r)) (st : ∀ c, c < 16 → A 10 c = mHas A (nI c) r) (rw : ∀ k, k < r → ∃ p c w u t, p < 20 ∧ c < n ∧ w ≤ D ∧ u ≤ 50 ∧ t ≤ 2000 ∧ A 32 k = nI p ∧ A 33 k = nI c ∧ A 34 k = nI w ∧ A 12 k = nI w ∧ A 36 k = nI u ∧ A 14 k = nI u ∧ A 26 c = nI t ∧ ∀ j, j < u → ∃ x, A 37 (50 * k + j) = nI x ∧ x ≤ D ∧ x < w + t + j) (fz : ∀ k, r ≤ k → k < 300 → A 14 k = 0 ∧ A 36 k = 0) (lp : ∀ p c, p < 20 → c < 16 → A 15 (16 * p + c) = mPass A (nI p) (nI c) (nI D) r) (pb : ∀ k, k < r → A 13 k = mPass A (A 32 k) (A 33 k) (nI D) k) (lt : ∀ p c x, p < 20 → c < 16 → x < r → mLate A (nI p) (nI c) r = nI x → A 16 (16 * p + c) = A 34 x) (fl : ∀ p c, p < 20 → c < 16 → A 17 (16 * p + c) = nI (mFails A (nI p) (nI c) r)) (us : ∀ q, q < 320 → A 18 q = A 38 q) (sd : ∀ s, s < m → A 21 s = A 39 s) : Rel A V n r D m := ⟨n16, r300, D9, m12, v0, v1, v2, v3, v4, v5, v7, v9, v10, v11, tm, pm, cp, rt, nd, nn, wy, tc, tz, td, st, rw, fz, lp, pb, lt, fl, us, sd⟩
theorem q320 {q : Nat} (h : q < 320) : q = 16 * (q / 16) + q % 16 ∧ q / 16 < 20 ∧ q % 16 < 16 := by omega
theorem Rel.cwf {A : Nat → Nat → Int32} {V : Nat → Int32} {n r D m : Nat} (h : Rel A V n r D m) : cWf A V n r := by
  refine ⟨h.v2, h.n16, h.v3, h.r300, fun q hq => ?_, fun k hk => ?_⟩
  · obtain ⟨e, h1, h2⟩ := q320 hq
    rw [e, h.lp _ _ h1 h2]; exact mPass_pass _ _ _ _ _
  · rw [h.pb k hk]; exact mPass_pass _ _ _ _ _
theorem Rel.mwf {A : Nat → Nat → Int32} {V : Nat → Int32} {n r D m : Nat} (h : Rel A V n r D m) : mWf A V n r := by
  refine ⟨h.v9, h.n16, h.v10, h.r300, fun k hk => ?_⟩
  obtain ⟨p, c, w, u, t, h1, h2, h3, h4, h5, h6, h7, h8, h9, h10, _⟩ := h.rw k hk
  exact ⟨⟨c, by have := h.n16; omega, h7⟩, u, h4, h10⟩
theorem Rel.h00 {A : Nat → Nat → Int32} {V : Nat → Int32} {n r D m : Nat} (h : Rel A V n r D m) : ¬ V 0 < 0 := by rw [h.v0]; exact nI_pos (by have := h.D9; omega)
theorem mPass_prop {A : Nat → Nat → Int32} {p c d : Int32} {x : Nat} : ∀ k, k ≤ 300 → x < 300 → mPass A p c d k = nI x → x < k ∧ A 32 x = p ∧ A 33 x = c ∧ ¬ A 35 x = 0 ∧ A 34 x ≤ d
  | 0, _, hx, h => absurd (show (-1 : Int32) = nI x from h).symm (nm1 (by omega))
  | k + 1, hk, hx, h => by
    rw [mPass] at h
    by_cases e : A 32 k = p ∧ A 33 k = c ∧ ¬ A 35 k = 0 ∧ A 34 k ≤ d
    · rw [if_pos e, nI_eq (by omega) (by omega)] at h
      subst h; exact ⟨by omega, e⟩
    · rw [if_neg e] at h
      obtain ⟨a, b⟩ := mPass_prop k (by omega) hx h
      exact ⟨by omega, b⟩
theorem mOff_all {A : Nat → Nat → Int32} {x : Nat} {d : Int32} : ∀ u, (∀ j, j < u → A 37 (50 * x + j) ≤ d) → mOff A x d u = u
  | 0, _ => rfl
  | u + 1, h => by rw [mOff, mOff_all u (fun j hj => h j (by omega)), if_pos (h u (by omega))]
theorem mOff_le {A : Nat → Nat → Int32} {x : Nat} {d : Int32} : ∀ u, mOff A x d u ≤ u
  | 0 => Nat.le_refl _
  | u + 1 => by
    have := mOff_le (A := A) (x := x) (d := d) u
    rw [mOff]
    split <;> omega
theorem mOff_ge {A : Nat → Nat → Int32} {x i : Nat} {d : Int32} (h : ∀ j, j < i → A 37 (50 * x + j) ≤ d) : ∀ u, i ≤ u → i ≤ mOff A x d u
  | 0, hi => by omega
  | u + 1, hi => by
    by_cases e : i = u + 1
    · rw [mOff_all (u + 1) (fun j hj => h j (by omega))]; exact hi
    · have := mOff_ge h u (by omega)
      rw [mOff]; omega
/-- the puts of a pass are all counted on a day on which the pass has lapsed -/
theorem off_lap {A : Nat → Nat → Int32} {x u w t dn : Nat} (hp : ∀ j, j < u → ∃ y, A 37 (50 * x + j) = nI y ∧ y ≤ 9999 ∧ y < w + t + j) (hd : dn ≤ 9999) (h : w + t + mOff A x (nI dn) u ≤ dn) : mOff A x (nI dn) u = u := by
  refine mOff_all u (fun j hj => ?_)
  refine Nat.strongRecOn (motive := fun j => j < u → A 37 (50 * x + j) ≤ nI dn) j (fun j ih hj => ?_) hj
  have h1 := mOff_ge (A := A) (x := x) (d := nI dn) (i := j) (fun i hi => ih i hi (by omega)) u (by omega)
  obtain ⟨y, y1, y2, y3⟩ := hp j hj
  rw [y1, nge (by omega) (by omega)]
  omega
theorem Rel.row {A : Nat → Nat → Int32} {V : Nat → Int32} {n r D m p c x : Nat} {d : Int32} (h : Rel A V n r D m) (hp : p < 20) (hc : c < n) (hx : x < r) (e : mPass A (nI p) (nI c) d r = nI x) : ∃ w u t, w ≤ D ∧ u ≤ 50 ∧ t ≤ 2000 ∧ nI w ≤ d ∧ A 12 x = nI w ∧ A 34 x = nI w ∧ A 14 x = nI u ∧ A 36 x = nI u ∧ A 33 x = nI c ∧ A 2 c = nI t ∧ A 26 c = nI t ∧ ∀ j, j < u → ∃ y, A 37 (50 * x + j) = nI y ∧ y ≤ D ∧ y < w + t + j := by
  have hr := h.r300
  have hn := h.n16
  obtain ⟨_, e1, e2, _, e4⟩ := mPass_prop r hr (by omega) e
  obtain ⟨p', c', w, u, t, h1, h2, h3, h4, h5, h6, h7, h8, h9, h10, h11, h12, h13⟩ := h.rw x hx
  have ec : c' = c := (nI_eq (by omega) (by omega)).mp (h7.symm.trans e2)
  subst ec
  obtain ⟨t', t1, t2, t3⟩ := h.tm c' hc
  rw [t2] at h12
  exact ⟨w, u, t, h3, h4, h5, by rw [← h8]; exact e4, h9, h8, h11, h10, h7, by rw [t3, h12], by rw [t2, h12], h13⟩
theorem mLap_e {A : Nat → Nat → Int32} {x w u t c : Nat} {d : Int32} (hu : u ≤ 50) (hc : c < 16) (h1 : A 34 x = nI w) (h2 : A 36 x = nI u) (h3 : A 33 x = nI c) (h4 : A 26 c = nI t) : mLap A x d = nI (w + t + mOff A x d u) := by
  unfold mLap
  rw [h1, h3, ncl (by omega), h4, h2, ncl (by omega), nI_add, nI_add]
theorem cLof_e {A : Nat → Nat → Int32} {x w u t c : Nat} (hx : x < 300) (h1 : A 12 x = nI w) (h2 : A 14 x = nI u) (h4 : A 2 c = nI t) : cLof A (nI x) c = nI (w + t + u) := by
  unfold cLof
  rw [if_neg (nm1 (by omega)), ncl (by omega), h1, h4, h2, nI_add, nI_add]
/-- one pair's lapse, both ways: none, or a day -/
theorem Rel.lap {A : Nat → Nat → Int32} {V : Nat → Int32} {n r D m p c : Nat} (h : Rel A V n r D m) (hp : p < 20) (hc : c < n) : (mPass A (nI p) (nI c) (V 7) r = -1 ∧ cLap A p c = -1) ∨ ∃ x y, x < r ∧ mPass A (nI p) (nI c) (V 7) r = nI x ∧ A 15 (16 * p + c) = nI x ∧ y ≤ 12049 ∧ cLap A p c = nI y ∧ mLap A x (V 7) = nI y := by
  have hn := h.n16
  have hr := h.r300
  have hD := h.D9
  have e15 := h.lp p c hp (by omega)
  rw [h.v7]
  unfold cLap
  rw [e15]
  rcases mPass_pass A (nI p) (nI c) (nI D) r with e | ⟨x, hx, e⟩
  · left; rw [e]; exact ⟨rfl, rfl⟩
  · right
    obtain ⟨w, u, t, b1, b2, b3, b4, b5, b6, b7, b8, b9, b10, b11, b12⟩ := h.row hp hc hx e
    rw [e]
    refine ⟨x, w + t + u, hx, rfl, rfl, by omega, cLof_e (by omega) b5 b7 b10, ?_⟩
    rw [mLap_e b2 (by omega) b6 b8 b9 b11, mOff_all u (fun j hj => ?_)]
    obtain ⟨y, y1, y2, y3⟩ := b12 j hj
    rw [y1, nge (by omega) (by omega)]; exact y2
theorem Rel.lapse {A : Nat → Nat → Int32} {V : Nat → Int32} {n r D m p c : Nat} (h : Rel A V n r D m) (hp : p < 20) (hc : c < n) : cLap A p c = mLapse A V r p c := by
  have hr := h.r300
  unfold mLapse
  rcases h.lap hp hc with ⟨e1, e2⟩ | ⟨x, y, hx, e1, e0, e2, e3, e4⟩
  · rw [e1, e2]; rfl
  · rw [e1, if_pos (Int32.not_lt.mp (nI_pos (by omega))), ncl (by omega), e3, e4]
theorem Rel.held {A : Nat → Nat → Int32} {V : Nat → Int32} {n r D m p c : Nat} (h : Rel A V n r D m) (hp : p < 20) (hc : c < n) : cHold A V p c ↔ mHeld A r (nI p) (nI c) (V 7) := by
  have hr := h.r300
  have hD := h.D9
  unfold cHold mHeld
  rcases h.lap hp hc with ⟨e1, e2⟩ | ⟨x, y, hx, e1, e0, e2, e3, e4⟩
  · rw [e1, e2, h.v0]
    exact ⟨fun z => absurd (Int32.lt_trans z (by decide)) (nI_pos (by omega)), fun z => absurd (by decide) z.1⟩
  · rw [e1, e3, ncl (by omega), e4, h.v0, h.v7]
    exact ⟨fun z => ⟨nI_pos (by omega), z⟩, fun z => z.2⟩
theorem mPass_big {A : Nat → Nat → Int32} {p c d d' : Int32} : ∀ k, (∀ j, j < k → A 34 j ≤ d ∧ A 34 j ≤ d') → mPass A p c d k = mPass A p c d' k
  | 0, _ => rfl
  | k + 1, h => by
    rw [mPass, mPass, mPass_big k (fun j hj => h j (by omega))]
    have := h k (by omega)
    by_cases e : A 32 k = p ∧ A 33 k = c ∧ ¬ A 35 k = 0
    · rw [if_pos ⟨e.1, e.2.1, e.2.2, this.1⟩, if_pos ⟨e.1, e.2.1, e.2.2, this.2⟩]
    · rw [if_neg (fun z => e ⟨z.1, z.2.1, z.2.2.1⟩), if_neg (fun z => e ⟨z.1, z.2.1, z.2.2.1⟩)]
theorem cUp_m1 {A : Nat → Nat → Int32} {d : Int32} : ∀ f, cUp A d f (-1) = -1
  | 0 => rfl
  | f + 1 => by rw [cUp, if_pos rfl]
theorem Rel.up {A : Nat → Nat → Int32} {V : Nat → Int32} {n r D m : Nat} {p c d : Int32} (h : Rel A V n r D m) : ∀ k f, k ≤ f → k ≤ r → cUp A d f (mPass A p c (nI D) k) = mPass A p c d k
  | 0, f, _, _ => cUp_m1 f
  | k + 1, 0, h1, _ => absurd h1 (by omega)
  | k + 1, f + 1, h1, h2 => by
    have hr := h.r300
    have hD := h.D9
    obtain ⟨p', c', w, u, t, g1, g2, g3, g4, g5, g6, g7, g8, g9, _⟩ := h.rw k (by omega)
    have hw : A 34 k ≤ nI D := by rw [g8, nge (by omega) (by omega)]; exact g3
    rw [mPass, mPass]
    by_cases e : A 32 k = p ∧ A 33 k = c ∧ ¬ A 35 k = 0
    · rw [if_pos ⟨e.1, e.2.1, e.2.2, hw⟩, cUp, if_neg (nm1 (by omega)), ncl (by omega), g9, ← g8]
      by_cases y : d < A 34 k
      · rw [if_pos y, if_neg (fun z => absurd z.2.2.2 (Int32.not_le.mpr y)), h.pb k (by omega), e.1, e.2.1]
        exact h.up k f (by omega) (by omega)
      · rw [if_neg y, if_pos ⟨e.1, e.2.1, e.2.2, Int32.not_lt.mp y⟩]
    · rw [if_neg (fun z => e ⟨z.1, z.2.1, z.2.2.1⟩), if_neg (fun z => e ⟨z.1, z.2.1, z.2.2.1⟩)]
      exact h.up k (f + 1) (by omega) (by omega)
theorem Rel.holds {A : Nat → Nat → Int32} {V : Nat → Int32} {n r D m p c : Nat} {d : Int32} (h : Rel A V n r D m) (hp : p < 20) (hc : c < n) (hd : jrg d 0 9999) : cHolds A r p c d ↔ mHeld A r (nI p) (nI c) d := by
  have hn := h.n16
  have hr := h.r300
  have hD := h.D9
  obtain ⟨dn, hdn, rfl⟩ := jnat (n := 10000) hd.1 (Int32.lt_iff_toInt_lt.mpr (by
    have := Int32.le_iff_toInt_le.mp hd.2
    have e : (9999 : Int32).toInt = 9999 := by decide
    have e2 : (nI 10000).toInt = 10000 := by decide
    omega)) (by decide)
  unfold cHolds mHeld
  rw [h.lp p c hp (by omega), h.up r r (Nat.le_refl _) (Nat.le_refl _)]
  rcases mPass_pass A (nI p) (nI c) (nI dn) r with e | ⟨x, hx, e⟩
  · rw [e]
    exact ⟨fun z => absurd (Int32.lt_trans (show nI dn < -1 from z) (by decide)) (nI_pos (by omega)), fun z => absurd (by decide) z.1⟩
  · obtain ⟨w, u, t, b1, b2, b3, b4, b5, b6, b7, b8, b9, b10, b11, b12⟩ := h.row hp hc hx e
    rw [e, cLof_e (by omega) b5 b7 b10, ncl (by omega), mLap_e b2 (by omega) b6 b8 b9 b11]
    have hle := mOff_le (A := A) (x := x) (d := nI dn) u
    rw [nlt (by omega) (by omega), nlt (by omega) (by omega)]
    refine ⟨fun z => ⟨nI_pos (by omega), ?_⟩, fun z => by have := z.2; omega⟩
    rcases Nat.lt_or_ge dn (w + t + mOff A x (nI dn) u) with y | y
    · exact y
    · have := off_lap (A := A) (x := x) (u := u) (w := w) (t := t) (dn := dn) (fun j hj => by
        obtain ⟨y, y1, y2, y3⟩ := b12 j hj
        exact ⟨y, y1, by omega, y3⟩) (by omega) y
      omega
theorem Rel.tch {A : Nat → Nat → Int32} {V : Nat → Int32} {n r D m p c : Nat} (h : Rel A V n r D m) (hp : p < 20) (hc : c < 16) : jbit (A 8 c) (nI p) ↔ ¬ A 31 (16 * p + c) = 0 := by
  rw [h.tc p c hp hc]
  rcases h.tz p c hp hc with e | e
  · rw [e]; exact ⟨fun z => absurd z (by decide), fun z => absurd rfl z⟩
  · rw [e]; exact ⟨fun _ => by decide, fun _ => rfl⟩
theorem Rel.why {A : Nat → Nat → Int32} {V : Nat → Int32} {n r D m p c : Nat} (h : Rel A V n r D m) (hp : p < 20) (hc : c < n) : cWhy A V n p c = mWhy A V n r p c := by
  have hn := h.n16
  have hr := h.r300
  have e1 : (∃ o, o < n ∧ jbit (A 6 c) (nI o) ∧ ¬ cHold A V p o) ↔ ∃ o, o < n ∧ mMiss A V r p c o := by
    constructor
    · rintro ⟨o, ho, a, b⟩
      exact ⟨o, ho, (h.nd c o (by omega) (by omega)).mp a, fun z => b ((h.held hp ho).mpr z)⟩
    · rintro ⟨o, ho, a, b⟩
      exact ⟨o, ho, (h.nd c o (by omega) (by omega)).mpr a, fun z => b ((h.held hp ho).mp z)⟩
  have e2 : (¬ A 17 (16 * p + c) < 3 ∧ ¬ V 1 ≤ V 0 - A 16 (16 * p + c)) ↔ (¬ nI (mFails A (nI p) (nI c) r) < 3 ∧ ¬ V 8 ≤ V 7 - A 34 (mLate A (nI p) (nI c) r).toNatClampNeg) := by
    rw [h.fl p c hp (by omega), h.v1, h.v0, h.v7]
    refine and_congr_right (fun hf => ?_)
    rcases mLate_pass A (nI p) (nI c) r with e | ⟨x, hx, e⟩
    · have := mLate_fails A (nI p) (nI c) r hr e
      rw [this] at hf
      exact absurd (by decide) hf
    · rw [e, ncl (by omega), h.lt p c x hp (by omega) hx e]
  unfold cWhy mWhy
  by_cases g1 : ∃ o, o < n ∧ mMiss A V r p c o
  · rw [if_pos g1, if_pos (e1.mpr g1)]
  · rw [if_neg g1, if_neg (fun z => g1 (e1.mp z))]
    by_cases g2 : jbit (A 8 c) (nI p)
    · rw [if_pos g2, if_pos ((h.tch hp (by omega)).mp g2)]
    · rw [if_neg g2, if_neg (fun z => g2 ((h.tch hp (by omega)).mpr z))]
      by_cases g3 : ¬ A 17 (16 * p + c) < 3 ∧ ¬ V 1 ≤ V 0 - A 16 (16 * p + c)
      · rw [if_pos g3, if_pos (e2.mp g3)]
      · rw [if_neg g3, if_neg (fun z => g3 (e2.mpr z))]
theorem Rel.cnts {A : Nat → Nat → Int32} {V : Nat → Int32} {n r D m p c : Nat} (h : Rel A V n r D m) (hp : p < 20) (hc : c < n) : (jbit (A 8 c) (nI p) ∧ cHold A V p c) ↔ mCounts A V r p c := by
  have hn := h.n16
  unfold mCounts
  rw [h.tch hp (by omega), h.held hp hc]

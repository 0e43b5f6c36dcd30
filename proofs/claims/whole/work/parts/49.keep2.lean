theorem mOff_c {A B : Nat → Nat → Int32} (h : B 37 = A 37) (x : Nat) (d : Int32) : ∀ k, mOff B x d k = mOff A x d k
  | 0 => rfl
  | k + 1 => by rw [mOff, mOff, mOff_c h x d k, h]
/-- the model's side is alike -/
def mEq (A : Nat → Nat → Int32) (V : Nat → Int32) (B : Nat → Nat → Int32) (W : Nat → Int32) : Prop := (∀ a, 26 ≤ a → a < 39 → B a = A a) ∧ W 7 = V 7 ∧ W 8 = V 8 ∧ W 9 = V 9 ∧ W 10 = V 10
theorem mEq.pass {A B : Nat → Nat → Int32} {V W : Nat → Int32} (e : mEq A V B W) (p c d : Int32) (k : Nat) : mPass B p c d k = mPass A p c d k :=
  mPass_c (e.1 32 (by omega) (by omega)) (e.1 33 (by omega) (by omega)) (e.1 34 (by omega) (by omega)) (e.1 35 (by omega) (by omega)) p c d k
theorem mEq.lap {A B : Nat → Nat → Int32} {V W : Nat → Int32} (e : mEq A V B W) (x : Nat) (d : Int32) : mLap B x d = mLap A x d := by
  unfold mLap
  rw [mOff_c (A := A) (B := B) (e.1 37 (by omega) (by omega)), e.1 34 (by omega) (by omega), e.1 26 (by omega) (by omega), e.1 33 (by omega) (by omega), e.1 36 (by omega) (by omega)]
theorem mEq.held {A B : Nat → Nat → Int32} {V W : Nat → Int32} (e : mEq A V B W) (r : Nat) (p c d : Int32) : mHeld B r p c d ↔ mHeld A r p c d := by
  unfold mHeld
  rw [e.pass, e.lap]
theorem mEq.counts {A B : Nat → Nat → Int32} {V W : Nat → Int32} (e : mEq A V B W) (r p c : Nat) : mCounts B W r p c ↔ mCounts A V r p c := by
  unfold mCounts
  rw [e.held, e.1 31 (by omega) (by omega), e.2.1]
theorem mEq.sum {A B : Nat → Nat → Int32} {V W : Nat → Int32} (e : mEq A V B W) (r c : Nat) : ∀ k, mSum B W r c k = mSum A V r c k
  | 0 => rfl
  | k + 1 => by
    rw [mSum, mSum, mEq.sum e r c k, e.1 29 (by omega) (by omega)]
    by_cases z : mCounts A V r k c
    · rw [if_pos z, if_pos ((e.counts r k c).mpr z)]
    · rw [if_neg z, if_neg (fun y => z ((e.counts r k c).mp y))]
theorem mEq.room {A B : Nat → Nat → Int32} {V W : Nat → Int32} (e : mEq A V B W) (r c : Nat) : mRoom B W r c = mRoom A V r c := by
  unfold mRoom
  rw [e.sum, mToday_c (A := A) (B := B) (V := V) (V' := W) (e.1 33 (by omega) (by omega)) (e.1 34 (by omega) (by omega)) e.2.1]
theorem mEq.why {A B : Nat → Nat → Int32} {V W : Nat → Int32} (e : mEq A V B W) (n r p c : Nat) : mWhy B W n r p c = mWhy A V n r p c := by
  have e1 : (∃ o, o < n ∧ mMiss B W r p c o) ↔ ∃ o, o < n ∧ mMiss A V r p c o := by
    unfold mMiss
    rw [e.1 30 (by omega) (by omega), e.2.1]
    exact ⟨fun ⟨o, a, b, d⟩ => ⟨o, a, b, fun z => d ((e.held r _ _ _).mpr z)⟩, fun ⟨o, a, b, d⟩ => ⟨o, a, b, fun z => d ((e.held r _ _ _).mp z)⟩⟩
  unfold mWhy
  rw [mFails_c (A := A) (B := B) (e.1 32 (by omega) (by omega)) (e.1 33 (by omega) (by omega)) (e.1 35 (by omega) (by omega)), mLate_c (A := A) (B := B) (e.1 32 (by omega) (by omega)) (e.1 33 (by omega) (by omega)), e.1 34 (by omega) (by omega), e.1 31 (by omega) (by omega), e.2.1, e.2.2.1]
  by_cases z : ∃ o, o < n ∧ mMiss A V r p c o
  · rw [if_pos z, if_pos (e1.mpr z)]
  · rw [if_neg z, if_neg (fun y => z (e1.mp y))]
theorem mEq.fit {A B : Nat → Nat → Int32} {V W : Nat → Int32} (e : mEq A V B W) (r : Nat) (x : Int64) (dd : Int32) (s p : Nat) : mFit B W r x dd s p ↔ mFit A V r x dd s p := by
  unfold mFit
  rw [e.held, e.2.1, e.pass, e.lap]
theorem mEq.wf {A B : Nat → Nat → Int32} {V W : Nat → Int32} (e : mEq A V B W) {n r : Nat} (h : mWf A V n r) : mWf B W n r := by
  unfold mWf
  rw [e.2.2.2.1, e.2.2.2.2, e.1 33 (by omega) (by omega), e.1 36 (by omega) (by omega)]
  exact h
theorem mReach.refl {A : Nat → Nat → Int32} (a : Nat) : mReach A a a := fun _ h _ => h
theorem mReach.snoc {A : Nat → Nat → Int32} {a x y : Nat} (h : mReach A a x) (hx : x < 16) (hy : y < 16) (e : ¬ A 30 (16 * x + y) = 0) : mReach A a y := fun S h0 h1 => h1 x y hx hy (h S h0 h1) e
theorem mReach.trans {A : Nat → Nat → Int32} {a x y : Nat} (h : mReach A a x) (h2 : mReach A x y) : mReach A a y := fun S h0 h1 => h2 S (h S h0 h1) h1
theorem mReach.lt {A : Nat → Nat → Int32} {a x : Nat} (h : mReach A a x) (ha : a < 16) : x < 16 := h (fun x => x < 16) ha (fun _ b _ hb _ _ => hb)
theorem mReach.one {A : Nat → Nat → Int32} {o q : Nat} (ho : o < 16) : mReach A o q ↔ o = q ∨ ∃ a, a < 16 ∧ ¬ A 30 (16 * o + a) = 0 ∧ mReach A a q := by
  constructor
  · intro h
    refine h (fun q => o = q ∨ ∃ a, a < 16 ∧ ¬ A 30 (16 * o + a) = 0 ∧ mReach A a q) (Or.inl rfl) (fun x y hx hy s e => ?_)
    rcases s with s | ⟨a, a1, a2, a3⟩
    · subst s; exact Or.inr ⟨y, hy, e, mReach.refl y⟩
    · exact Or.inr ⟨a, a1, a2, a3.snoc hx hy e⟩
  · rintro (h | ⟨a, a1, a2, a3⟩)
    · subst h; exact mReach.refl o
    · exact ((mReach.refl o).snoc ho a1 a2).trans a3
theorem need_e {f : Nat → Int32} {c o x y : Nat} (ho : o < 16) (hy : y < 16) : ¬ upd f (16 * c + o) 1 (16 * x + y) = 0 ↔ (x = c ∧ y = o) ∨ ¬ f (16 * x + y) = 0 := by
  by_cases z : 16 * x + y = 16 * c + o
  · rw [z, upd_at]
    exact ⟨fun _ => Or.inl (by omega), fun _ => by decide⟩
  · rw [upd_ne z]
    exact ⟨Or.inr, fun w => w.elim (fun v => absurd (by omega) z) id⟩
theorem need_r {A B : Nat → Nat → Int32} {c o a q : Nat} (hc : c < 16) (ho : o < 16) (hB : B 30 = upd (A 30) (16 * c + o) 1) : mReach B a q ↔ mReach A a q ∨ (mReach A a c ∧ mReach A o q) := by
  have up : ∀ {a q}, mReach A a q → mReach B a q := fun h S h0 h1 => h S h0 (fun x y hx hy s e => h1 x y hx hy s (by rw [hB]; exact (need_e ho hy).mpr (Or.inr e)))
  constructor
  · intro h
    refine h (fun q => mReach A a q ∨ (mReach A a c ∧ mReach A o q)) (Or.inl (mReach.refl a)) (fun x y hx hy s e => ?_)
    rw [hB, need_e ho hy] at e
    rcases e with ⟨e1, e2⟩ | e
    · subst e1 e2
      exact Or.inr ⟨s.elim id (fun z => z.1), mReach.refl _⟩
    · exact s.elim (fun z => Or.inl (z.snoc hx hy e)) (fun z => Or.inr ⟨z.1, z.2.snoc hx hy e⟩)
  · rintro (h | ⟨h1, h2⟩)
    · exact up h
    · exact ((up h1).snoc hc ho (by rw [hB]; exact (need_e ho ho).mpr (Or.inl ⟨rfl, rfl⟩))).trans (up h2)
theorem Rel.need {A : Nat → Nat → Int32} {V : Nat → Int32} {n r D m : Nat} (h : Rel A V n r D m) {c2 o2 : Nat} (hc2 : c2 < n) (ho2 : o2 < n) : Rel (va_up (cNeed A c2 o2 n) 30 (upd (A 30) (16 * c2 + o2) 1)) (va_up V 6 0) n r D m := by
  have hn := h.n16
  refine Rel.mk (h.n16) (h.r300) (h.D9) (h.m12) (h.v0) (h.v1) (h.v2) (h.v3) (h.v4.trans (congrArg nI (mPs_c (A := A) (B := (va_up (cNeed A c2 o2 n) 30 (upd (A 30) (16 * c2 + o2) 1))) rfl r).symm)) (h.v5) (h.v7) (h.v9) (h.v10) (h.v11) (h.tm) (h.pm) (h.cp) (h.rt) (fun c o hc ho => ?_) (fun c o hc ho e => ?_) (fun c o hc ho => ?_) (h.tc) (h.tz) (fun c9 hc => (h.td c9 hc).trans (congrArg nI (mToday_c (A := A) (B := (va_up (cNeed A c2 o2 n) 30 (upd (A 30) (16 * c2 + o2) 1))) (V := V) (V' := (va_up V 6 0)) rfl rfl rfl c9 r).symm)) (fun c9 hc => (h.st c9 hc).trans (mHas_c (A := A) (B := (va_up (cNeed A c2 o2 n) 30 (upd (A 30) (16 * c2 + o2) 1))) rfl _ r).symm) (h.rw) (h.fz) (fun p9 c9 hp hc => (h.lp p9 c9 hp hc).trans (mPass_c (A := A) (B := (va_up (cNeed A c2 o2 n) 30 (upd (A 30) (16 * c2 + o2) 1))) rfl rfl rfl rfl _ _ _ r).symm) (fun k9 hk => (h.pb k9 hk).trans (mPass_c (A := A) (B := (va_up (cNeed A c2 o2 n) 30 (upd (A 30) (16 * c2 + o2) 1))) rfl rfl rfl rfl _ _ _ k9).symm) (fun p9 c9 x9 hp hc hx e => h.lt p9 c9 x9 hp hc hx ((mLate_c (A := A) (B := (va_up (cNeed A c2 o2 n) 30 (upd (A 30) (16 * c2 + o2) 1))) rfl rfl _ _ r).symm.trans e)) (fun p9 c9 hp hc => (h.fl p9 c9 hp hc).trans (congrArg nI (mFails_c (A := A) (B := (va_up (cNeed A c2 o2 n) 30 (upd (A 30) (16 * c2 + o2) 1))) rfl rfl rfl _ _ r).symm)) (h.us) (h.sd)
  · show jbit (upd (A 6) c2 (A 6 c2 ||| (1 : Int32) <<< (nI o2 &&& 31)) c) (nI o) ↔ ¬ upd (A 30) (16 * c2 + o2) 1 (16 * c + o) = 0
    rw [need_e (by omega) ho, ← h.nd c o hc ho]
    by_cases z : c = c2
    · subst z
      rw [upd_at, jbit_or (by omega), jbit_one (by omega) (by omega)]
      exact ⟨fun w => w.elim Or.inr (fun y => Or.inl ⟨rfl, y.symm⟩), fun w => w.elim (fun y => Or.inr y.2.symm) Or.inl⟩
    · rw [upd_ne z]
      exact ⟨Or.inr, fun w => w.elim (fun y => absurd y.1 z) id⟩
  · rcases (need_e (f := A 30) (c := c2) (by omega) ho).mp e with w | w
    · omega
    · exact h.nn c o hc ho w
  · have hR := fun a q => need_r (A := A) (B := (va_up (cNeed A c2 o2 n) 30 (upd (A 30) (16 * c2 + o2) 1))) (c := c2) (o := o2) (a := a) (q := q) (by omega) (by omega) rfl
    have hw : (∃ a, a < 16 ∧ ¬ upd (A 30) (16 * c2 + o2) 1 (16 * c + a) = 0 ∧ mReach (va_up (cNeed A c2 o2 n) 30 (upd (A 30) (16 * c2 + o2) 1)) a o) ↔ (jbit (A 7 c) (nI o) ∨ ((c = c2 ∨ jbit (A 7 c) (nI c2)) ∧ mReach A o2 o)) := by
      rw [h.wy c o hc ho, h.wy c c2 hc (by omega)]
      constructor
      · rintro ⟨a, a1, a2, a3⟩
        rw [need_e (by omega) a1] at a2
        rw [hR] at a3
        rcases a2 with ⟨e1, e2⟩ | a2
        · subst e1 e2
          exact Or.inr ⟨Or.inl rfl, a3.elim id (fun z => z.2)⟩
        · exact a3.elim (fun z => Or.inl ⟨a, a1, a2, z⟩) (fun z => Or.inr ⟨Or.inr ⟨a, a1, a2, z.1⟩, z.2⟩)
      · rintro (⟨a, a1, a2, a3⟩ | ⟨e1 | ⟨a, a1, a2, a3⟩, e2⟩)
        · exact ⟨a, a1, (need_e (by omega) a1).mpr (Or.inr a2), (hR _ _).mpr (Or.inl a3)⟩
        · exact ⟨o2, by omega, (need_e (by omega) (by omega)).mpr (Or.inl ⟨e1, rfl⟩), (hR _ _).mpr (Or.inl e2)⟩
        · exact ⟨a, a1, (need_e (by omega) a1).mpr (Or.inr a2), (hR _ _).mpr (Or.inr ⟨a3, e2⟩)⟩
    refine Iff.trans ?_ hw.symm
    show jbit (cWay A c2 o2 n c) (nI o) ↔ _
    unfold cWay cBitO
    by_cases z : c < n ∧ (c = c2 ∨ jbit (A 7 c) (nI c2))
    · rw [if_pos z, jbit_or (by omega), jbit_or (by omega), jbit_one (by omega) (by omega), mReach.one (by omega), h.wy o2 o (by omega) ho]
      exact ⟨fun w => w.elim Or.inl (fun y => Or.inr ⟨z.2, y.elim Or.inr Or.inl⟩), fun w => w.elim Or.inl (fun y => Or.inr (y.2.elim Or.inr Or.inl))⟩
    · rw [if_neg z]
      refine ⟨Or.inl, fun w => w.elim id (fun y => absurd ⟨?_, y.1⟩ z)⟩
      rcases y.1 with v | v
      · omega
      · obtain ⟨a, a1, a2, _⟩ := (h.wy c c2 hc (by omega)).mp v
        exact (h.nn c a hc a1 a2).1
theorem Rel.rch {A : Nat → Nat → Int32} {V : Nat → Int32} {n r D m c o : Nat} (h : Rel A V n r D m) (hc : c < 16) (ho : o < 16) : (c = o ∨ jbit (A 7 o) (nI c)) ↔ mReach A o c := by
  rw [mReach.one ho, h.wy o c ho hc]
  exact ⟨fun w => w.elim (fun z => Or.inl z.symm) Or.inr, fun w => w.elim (fun z => Or.inl z.symm) Or.inr⟩
theorem mPs_l {A B : Nat → Nat → Int32} : ∀ k, (∀ j, j < k → B 35 j = A 35 j) → mPs B k = mPs A k
  | 0, _ => rfl
  | k + 1, h => by rw [mPs, mPs, mPs_l k (fun j hj => h j (by omega)), h k (by omega)]
theorem mToday_l {A B : Nat → Nat → Int32} {V W : Nat → Int32} (hV : W 7 = V 7) (c : Nat) : ∀ k, (∀ j, j < k → B 33 j = A 33 j ∧ B 34 j = A 34 j) → mToday B W c k = mToday A V c k
  | 0, _ => rfl
  | k + 1, h => by rw [mToday, mToday, mToday_l hV c k (fun j hj => h j (by omega)), (h k (by omega)).1, (h k (by omega)).2, hV]
theorem mHas_l {A B : Nat → Nat → Int32} (c : Int32) : ∀ k, (∀ j, j < k → B 33 j = A 33 j) → mHas B c k = mHas A c k
  | 0, _ => rfl
  | k + 1, h => by rw [mHas, mHas, mHas_l c k (fun j hj => h j (by omega)), h k (by omega)]
theorem mHas_01 (A : Nat → Nat → Int32) (c : Int32) : ∀ k, mHas A c k = 0 ∨ mHas A c k = 1
  | 0 => Or.inl rfl
  | k + 1 => by
    rw [mHas]
    by_cases z : ¬ mHas A c k = 0 ∨ A 33 k = c
    · rw [if_pos z]; exact Or.inr rfl
    · rw [if_neg z]; exact Or.inl rfl
theorem mPass_l {A B : Nat → Nat → Int32} (p c d : Int32) : ∀ k, (∀ j, j < k → B 32 j = A 32 j ∧ B 33 j = A 33 j ∧ B 34 j = A 34 j ∧ B 35 j = A 35 j) → mPass B p c d k = mPass A p c d k
  | 0, _ => rfl
  | k + 1, h => by
    obtain ⟨h1, h2, h3, h4⟩ := h k (by omega)
    rw [mPass, mPass, mPass_l p c d k (fun j hj => h j (by omega)), h1, h2, h3, h4]
theorem mLate_l {A B : Nat → Nat → Int32} (p c : Int32) : ∀ k, (∀ j, j < k → B 32 j = A 32 j ∧ B 33 j = A 33 j) → mLate B p c k = mLate A p c k
  | 0, _ => rfl
  | k + 1, h => by
    obtain ⟨h1, h2⟩ := h k (by omega)
    rw [mLate, mLate, mLate_l p c k (fun j hj => h j (by omega)), h1, h2]
theorem mFails_l {A B : Nat → Nat → Int32} (p c : Int32) : ∀ k, (∀ j, j < k → B 32 j = A 32 j ∧ B 33 j = A 33 j ∧ B 35 j = A 35 j) → mFails B p c k = mFails A p c k
  | 0, _ => rfl
  | k + 1, h => by
    obtain ⟨h1, h2, h3⟩ := h k (by omega)
    rw [mFails, mFails, mFails_l p c k (fun j hj => h j (by omega)), h1, h2, h3]
theorem Rel.addP {A : Nat → Nat → Int32} {V : Nat → Int32} {n r D m : Nat} (h : Rel A V n r D m) {p2 c2 : Nat} (hp2 : p2 < 20) (hc2 : c2 < n) (hr : r < 300) : Rel (mAdd (cAddP (cNote A c2) (16 * p2 + c2) r (V 0)) (va_up (va_up V 3 (nI (r + 1))) 4 (V 4 + 1)) r (nI p2) (nI c2) 1) (va_up (va_up (va_up (va_up V 3 (nI (r + 1))) 4 (V 4 + 1)) 6 0) 10 (nI (r + 1))) n (r + 1) D m := by
  have hn := h.n16
  have hD := h.D9
  generalize hB : (mAdd (cAddP (cNote A c2) (16 * p2 + c2) r (V 0)) (va_up (va_up V 3 (nI (r + 1))) 4 (V 4 + 1)) r (nI p2) (nI c2) 1) = B
  have hlo : ∀ j, j < r → B 32 j = A 32 j ∧ B 33 j = A 33 j ∧ B 34 j = A 34 j ∧ B 35 j = A 35 j := fun j hj => by
    subst hB
    exact ⟨upd_ne (by omega), upd_ne (by omega), upd_ne (by omega), upd_ne (by omega)⟩
  have b32 : B 32 r = nI p2 := by subst hB; exact upd_at
  have b33 : B 33 r = nI c2 := by subst hB; exact upd_at
  have b34 : B 34 r = V 7 := by subst hB; exact upd_at
  have b35 : B 35 r = 1 := by subst hB; exact upd_at
  have same : ∀ p c, p < 20 → c < 16 → (nI p2 = nI p ∧ nI c2 = nI c ↔ p = p2 ∧ c = c2) := fun p c hp hc => by
    rw [nI_eq (by omega) (by omega), nI_eq (by omega) (by omega)]; omega
  have ePs := mPs_l (A := A) (B := B) r (fun j hj => (hlo j hj).2.2.2)
  have eTd := fun c => mToday_l (A := A) (B := B) (V := V) (W := (va_up (va_up (va_up (va_up V 3 (nI (r + 1))) 4 (V 4 + 1)) 6 0) 10 (nI (r + 1)))) rfl c r (fun j hj => ⟨(hlo j hj).2.1, (hlo j hj).2.2.1⟩)
  have eHs := fun c => mHas_l (A := A) (B := B) c r (fun j hj => (hlo j hj).2.1)
  have ePa := fun p c d k (hk : k ≤ r) => mPass_l (A := A) (B := B) p c d k (fun j hj => hlo j (by omega))
  have eLa := fun p c => mLate_l (A := A) (B := B) p c r (fun j hj => ⟨(hlo j hj).1, (hlo j hj).2.1⟩)
  have eFa := fun p c => mFails_l (A := A) (B := B) p c r (fun j hj => ⟨(hlo j hj).1, (hlo j hj).2.1, (hlo j hj).2.2.2⟩)
  subst hB; refine Rel.mk (h.n16) (hr) (h.D9) (h.m12) (h.v0) (h.v1) (h.v2) (rfl) (?_) (h.v5) (h.v7) (h.v9) (rfl) (h.v11) (h.tm) (h.pm) (h.cp) (h.rt) (h.nd) (h.nn) (h.wy) (h.tc) (h.tz) (?_) (?_) (?_) (?_) (?_) (?_) (?_) (?_) (h.us) (h.sd)
  · show V 4 + 1 = nI (mPs _ r + _)
    rw [ePs, b35, if_neg (by decide), h.v4, nI_1]
  · intro c hc
    show upd (A 9) c2 (A 9 c2 + 1) c = nI (mToday (mAdd (cAddP (cNote A c2) (16 * p2 + c2) r (V 0)) (va_up (va_up V 3 (nI (r + 1))) 4 (V 4 + 1)) r (nI p2) (nI c2) 1) (va_up (va_up (va_up (va_up V 3 (nI (r + 1))) 4 (V 4 + 1)) 6 0) 10 (nI (r + 1))) c r + _)
    rw [eTd, b33, b34]
    by_cases z : c = c2
    · subst z
      rw [upd_at, if_pos ⟨rfl, rfl⟩, h.td c hc, nI_1]
    · rw [upd_ne z, if_neg (fun y => z ((nI_eq (by omega) (by omega)).mp y.1.symm)), h.td c hc]; rfl
  · intro c hc
    show upd (A 10) c2 1 c = mHas (mAdd (cAddP (cNote A c2) (16 * p2 + c2) r (V 0)) (va_up (va_up V 3 (nI (r + 1))) 4 (V 4 + 1)) r (nI p2) (nI c2) 1) (nI c) (r + 1)
    rw [mHas, eHs, b33]
    by_cases z : c = c2
    · subst z
      rw [upd_at, if_pos (Or.inr rfl)]
    · rw [upd_ne z, h.st c hc]
      rcases mHas_01 A (nI c) r with e | e
      · rw [e, if_neg (fun y => y.elim (fun x => x rfl) (fun x => z ((nI_eq (by omega) (by omega)).mp x.symm)))]
      · rw [e, if_pos (Or.inl (by decide))]
  · intro k hk
    by_cases z : k = r
    · subst z
      obtain ⟨t, t1, t2, _⟩ := h.tm c2 hc2
      have f := h.fz k (Nat.le_refl _) hr
      exact ⟨p2, c2, D, 0, t, hp2, hc2, Nat.le_refl _, by omega, t1, b32, b33, b34.trans h.v7, upd_at.trans h.v0, f.2, f.1, t2, fun j hj => absurd hj (by omega)⟩
    · obtain ⟨p, c, w, u, t, g1, g2, g3, g4, g5, g6, g7, g8, g9, g10, g11, g12, g13⟩ := h.rw k (by omega)
      obtain ⟨l1, l2, l3, l4⟩ := hlo k (by omega)
      exact ⟨p, c, w, u, t, g1, g2, g3, g4, g5, l1.trans g6, l2.trans g7, l3.trans g8, (upd_ne z).trans g9, g10, g11, g12, g13⟩
  · exact fun k hk h3 => h.fz k (by omega) h3
  · intro p c hp hc
    rw [mPass, ePa _ _ _ r (Nat.le_refl _), b32, b33, b34, b35]
    by_cases z : p = p2 ∧ c = c2
    · rw [if_pos ⟨((same p c hp hc).mpr z).1, ((same p c hp hc).mpr z).2, by decide, by rw [h.v7]; exact Int32.le_refl _⟩, z.1, z.2]
      exact upd_at
    · rw [if_neg (fun y => z ((same p c hp hc).mp ⟨y.1, y.2.1⟩))]
      exact (upd_ne (by omega)).trans (h.lp p c hp hc)
  · intro k hk
    by_cases z : k = r
    · subst z
      rw [ePa _ _ _ k (Nat.le_refl _), b32, b33]
      exact upd_at.trans (h.lp p2 c2 hp2 (by omega))
    · rw [ePa _ _ _ k (by omega), (hlo k (by omega)).1, (hlo k (by omega)).2.1]
      exact (upd_ne z).trans (h.pb k (by omega))
  · intro p c x hp hc hx e
    rw [mLate, eLa, b32, b33] at e
    by_cases z : p = p2 ∧ c = c2
    · rw [if_pos ((same p c hp hc).mpr z), nI_eq (by omega) (by omega)] at e
      subst e
      rw [b34, z.1, z.2]
      exact upd_at.trans (h.v0.trans h.v7.symm)
    · rw [if_neg (fun y => z ((same p c hp hc).mp y))] at e
      rcases mLate_pass A (nI p) (nI c) r with y | ⟨x', y1, y2⟩
      · exact absurd (e.symm.trans y) (nm1 (by omega))
      · have : x = x' := (nI_eq (by omega) (by omega)).mp (e.symm.trans y2)
        subst this
        rw [(hlo x y1).2.2.1]
        exact (upd_ne (by omega)).trans (h.lt p c x hp hc y1 e)
  · intro p c hp hc
    rw [mFails, eFa, b32, b33, b35]
    by_cases z : p = p2 ∧ c = c2
    · rw [if_pos ((same p c hp hc).mpr z), if_neg (by decide), z.1, z.2]
      exact upd_at
    · rw [if_neg (fun y => z ((same p c hp hc).mp y))]
      exact (upd_ne (by omega)).trans (h.fl p c hp hc)
theorem Rel.addF {A : Nat → Nat → Int32} {V : Nat → Int32} {n r D m : Nat} (h : Rel A V n r D m) {p2 c2 : Nat} (hp2 : p2 < 20) (hc2 : c2 < n) (hr : r < 300) : Rel (mAdd (cAddF (cNote A c2) (16 * p2 + c2) r (V 0)) (va_up V 3 (nI (r + 1))) r (nI p2) (nI c2) 0) (va_up (va_up (va_up V 3 (nI (r + 1))) 6 0) 10 (nI (r + 1))) n (r + 1) D m := by
  have hn := h.n16
  have hD := h.D9
  generalize hB : (mAdd (cAddF (cNote A c2) (16 * p2 + c2) r (V 0)) (va_up V 3 (nI (r + 1))) r (nI p2) (nI c2) 0) = B
  have hlo : ∀ j, j < r → B 32 j = A 32 j ∧ B 33 j = A 33 j ∧ B 34 j = A 34 j ∧ B 35 j = A 35 j := fun j hj => by
    subst hB
    exact ⟨upd_ne (by omega), upd_ne (by omega), upd_ne (by omega), upd_ne (by omega)⟩
  have b32 : B 32 r = nI p2 := by subst hB; exact upd_at
  have b33 : B 33 r = nI c2 := by subst hB; exact upd_at
  have b34 : B 34 r = V 7 := by subst hB; exact upd_at
  have b35 : B 35 r = 0 := by subst hB; exact upd_at
  have same : ∀ p c, p < 20 → c < 16 → (nI p2 = nI p ∧ nI c2 = nI c ↔ p = p2 ∧ c = c2) := fun p c hp hc => by
    rw [nI_eq (by omega) (by omega), nI_eq (by omega) (by omega)]; omega
  have ePs := mPs_l (A := A) (B := B) r (fun j hj => (hlo j hj).2.2.2)
  have eTd := fun c => mToday_l (A := A) (B := B) (V := V) (W := (va_up (va_up (va_up V 3 (nI (r + 1))) 6 0) 10 (nI (r + 1)))) rfl c r (fun j hj => ⟨(hlo j hj).2.1, (hlo j hj).2.2.1⟩)
  have eHs := fun c => mHas_l (A := A) (B := B) c r (fun j hj => (hlo j hj).2.1)
  have ePa := fun p c d k (hk : k ≤ r) => mPass_l (A := A) (B := B) p c d k (fun j hj => hlo j (by omega))
  have eLa := fun p c => mLate_l (A := A) (B := B) p c r (fun j hj => ⟨(hlo j hj).1, (hlo j hj).2.1⟩)
  have eFa := fun p c => mFails_l (A := A) (B := B) p c r (fun j hj => ⟨(hlo j hj).1, (hlo j hj).2.1, (hlo j hj).2.2.2⟩)
  subst hB; refine Rel.mk (h.n16) (hr) (h.D9) (h.m12) (h.v0) (h.v1) (h.v2) (rfl) (?_) (h.v5) (h.v7) (h.v9) (rfl) (h.v11) (h.tm) (h.pm) (h.cp) (h.rt) (h.nd) (h.nn) (h.wy) (h.tc) (h.tz) (?_) (?_) (?_) (?_) (?_) (?_) (?_) (?_) (h.us) (h.sd)
  · show V 4 = nI (mPs _ r + _)
    rw [ePs, b35, if_pos rfl, h.v4]; rfl
  · intro c hc
    show upd (A 9) c2 (A 9 c2 + 1) c = nI (mToday (mAdd (cAddF (cNote A c2) (16 * p2 + c2) r (V 0)) (va_up V 3 (nI (r + 1))) r (nI p2) (nI c2) 0) (va_up (va_up (va_up V 3 (nI (r + 1))) 6 0) 10 (nI (r + 1))) c r + _)
    rw [eTd, b33, b34]
    by_cases z : c = c2
    · subst z
      rw [upd_at, if_pos ⟨rfl, rfl⟩, h.td c hc, nI_1]
    · rw [upd_ne z, if_neg (fun y => z ((nI_eq (by omega) (by omega)).mp y.1.symm)), h.td c hc]; rfl
  · intro c hc
    show upd (A 10) c2 1 c = mHas (mAdd (cAddF (cNote A c2) (16 * p2 + c2) r (V 0)) (va_up V 3 (nI (r + 1))) r (nI p2) (nI c2) 0) (nI c) (r + 1)
    rw [mHas, eHs, b33]
    by_cases z : c = c2
    · subst z
      rw [upd_at, if_pos (Or.inr rfl)]
    · rw [upd_ne z, h.st c hc]
      rcases mHas_01 A (nI c) r with e | e
      · rw [e, if_neg (fun y => y.elim (fun x => x rfl) (fun x => z ((nI_eq (by omega) (by omega)).mp x.symm)))]
      · rw [e, if_pos (Or.inl (by decide))]
  · intro k hk
    by_cases z : k = r
    · subst z
      obtain ⟨t, t1, t2, _⟩ := h.tm c2 hc2
      have f := h.fz k (Nat.le_refl _) hr
      exact ⟨p2, c2, D, 0, t, hp2, hc2, Nat.le_refl _, by omega, t1, b32, b33, b34.trans h.v7, upd_at.trans h.v0, f.2, f.1, t2, fun j hj => absurd hj (by omega)⟩
    · obtain ⟨p, c, w, u, t, g1, g2, g3, g4, g5, g6, g7, g8, g9, g10, g11, g12, g13⟩ := h.rw k (by omega)
      obtain ⟨l1, l2, l3, l4⟩ := hlo k (by omega)
      exact ⟨p, c, w, u, t, g1, g2, g3, g4, g5, l1.trans g6, l2.trans g7, l3.trans g8, (upd_ne z).trans g9, g10, g11, g12, g13⟩
  · exact fun k hk h3 => h.fz k (by omega) h3
  · intro p c hp hc
    rw [mPass, ePa _ _ _ r (Nat.le_refl _), b32, b33, b34, b35]
    rw [if_neg (fun y => y.2.2.1 rfl)]
    exact h.lp p c hp hc
  · intro k hk
    by_cases z : k = r
    · subst z
      rw [ePa _ _ _ k (Nat.le_refl _), b32, b33]
      exact upd_at.trans (h.lp p2 c2 hp2 (by omega))
    · rw [ePa _ _ _ k (by omega), (hlo k (by omega)).1, (hlo k (by omega)).2.1]
      exact (upd_ne z).trans (h.pb k (by omega))
  · intro p c x hp hc hx e
    rw [mLate, eLa, b32, b33] at e
    by_cases z : p = p2 ∧ c = c2
    · rw [if_pos ((same p c hp hc).mpr z), nI_eq (by omega) (by omega)] at e
      subst e
      rw [b34, z.1, z.2]
      exact upd_at.trans (h.v0.trans h.v7.symm)
    · rw [if_neg (fun y => z ((same p c hp hc).mp y))] at e
      rcases mLate_pass A (nI p) (nI c) r with y | ⟨x', y1, y2⟩
      · exact absurd (e.symm.trans y) (nm1 (by omega))
      · have : x = x' := (nI_eq (by omega) (by omega)).mp (e.symm.trans y2)
        subst this
        rw [(hlo x y1).2.2.1]
        exact (upd_ne (by omega)).trans (h.lt p c x hp hc y1 e)
  · intro p c hp hc
    rw [mFails, eFa, b32, b33, b35]
    by_cases z : p = p2 ∧ c = c2
    · rw [if_pos ((same p c hp hc).mpr z), if_pos rfl, z.1, z.2]
      exact upd_at.trans (by rw [← nI_1, ← h.fl p2 c2 hp2 (by omega)]; rfl)
    · rw [if_neg (fun y => z ((same p c hp hc).mp y))]
      exact (upd_ne (by omega)).trans (h.fl p c hp hc)
theorem Rel.use1 {A : Nat → Nat → Int32} {V : Nat → Int32} {n r D m : Nat} (h : Rel A V n r D m) {p2 c2 x u : Nat} (hp2 : p2 < 20) (hc2 : c2 < n) (hx : x < r) (e : mPass A (nI p2) (nI c2) (V 7) r = nI x) (hu : A 36 x = nI u) (hu2 : u < 50) (hh : mHeld A r (nI p2) (nI c2) (V 7)) : Rel (mUse2 (mUse1 (va_up (va_up A 14 (upd (A 14) x (A 14 x + 1))) 18 (upd (A 18) (16 * p2 + c2) (V 0))) V x u) V p2 c2) (va_up V 6 0) n r D m := by
  have hn := h.n16
  have hr := h.r300
  have hD := h.D9
  refine Rel.mk (h.n16) (h.r300) (h.D9) (h.m12) (h.v0) (h.v1) (h.v2) (h.v3) (h.v4.trans (congrArg nI (mPs_c (A := A) (B := (mUse2 (mUse1 (va_up (va_up A 14 (upd (A 14) x (A 14 x + 1))) 18 (upd (A 18) (16 * p2 + c2) (V 0))) V x u) V p2 c2)) rfl r).symm)) (h.v5) (h.v7) (h.v9) (h.v10) (h.v11) (h.tm) (h.pm) (h.cp) (h.rt) (h.nd) (h.nn) (h.wy) (h.tc) (h.tz) (fun c9 hc => (h.td c9 hc).trans (congrArg nI (mToday_c (A := A) (B := (mUse2 (mUse1 (va_up (va_up A 14 (upd (A 14) x (A 14 x + 1))) 18 (upd (A 18) (16 * p2 + c2) (V 0))) V x u) V p2 c2)) (V := V) (V' := (va_up V 6 0)) rfl rfl rfl c9 r).symm)) (fun c9 hc => (h.st c9 hc).trans (mHas_c (A := A) (B := (mUse2 (mUse1 (va_up (va_up A 14 (upd (A 14) x (A 14 x + 1))) 18 (upd (A 18) (16 * p2 + c2) (V 0))) V x u) V p2 c2)) rfl _ r).symm) (?_) (?_) (fun p9 c9 hp hc => (h.lp p9 c9 hp hc).trans (mPass_c (A := A) (B := (mUse2 (mUse1 (va_up (va_up A 14 (upd (A 14) x (A 14 x + 1))) 18 (upd (A 18) (16 * p2 + c2) (V 0))) V x u) V p2 c2)) rfl rfl rfl rfl _ _ _ r).symm) (fun k9 hk => (h.pb k9 hk).trans (mPass_c (A := A) (B := (mUse2 (mUse1 (va_up (va_up A 14 (upd (A 14) x (A 14 x + 1))) 18 (upd (A 18) (16 * p2 + c2) (V 0))) V x u) V p2 c2)) rfl rfl rfl rfl _ _ _ k9).symm) (fun p9 c9 x9 hp hc hx e => h.lt p9 c9 x9 hp hc hx ((mLate_c (A := A) (B := (mUse2 (mUse1 (va_up (va_up A 14 (upd (A 14) x (A 14 x + 1))) 18 (upd (A 18) (16 * p2 + c2) (V 0))) V x u) V p2 c2)) rfl rfl _ _ r).symm.trans e)) (fun p9 c9 hp hc => (h.fl p9 c9 hp hc).trans (congrArg nI (mFails_c (A := A) (B := (mUse2 (mUse1 (va_up (va_up A 14 (upd (A 14) x (A 14 x + 1))) 18 (upd (A 18) (16 * p2 + c2) (V 0))) V x u) V p2 c2)) rfl rfl rfl _ _ r).symm)) (?_) (h.sd)
  · intro k hk
    obtain ⟨p, c, w, u', t, g1, g2, g3, g4, g5, g6, g7, g8, g9, g10, g11, g12, g13⟩ := h.rw k hk
    by_cases z : k = x
    · subst z
      have eu : u' = u := (nI_eq (by omega) (by omega)).mp (g10.symm.trans hu)
      subst eu
      refine ⟨p, c, w, u' + 1, t, g1, g2, g3, by omega, g5, g6, g7, g8, g9, upd_at, upd_at.trans (by rw [g11, nI_1]), g12, fun j hj => ?_⟩
      by_cases y : j = u'
      · subst y
        refine ⟨D, upd_at.trans h.v7, Nat.le_refl _, ?_⟩
        have h2 := hh.2
        rw [e, ncl (by omega), mLap_e g4 (by omega) g8 g10 g7 g12, h.v7] at h2
        have := mOff_le (A := A) (x := k) (d := nI D) j
        rw [nlt (by omega) (by omega)] at h2
        omega
      · obtain ⟨v, v1, v2, v3⟩ := g13 j (by omega)
        exact ⟨v, (upd_ne (by omega)).trans v1, v2, v3⟩
    · refine ⟨p, c, w, u', t, g1, g2, g3, g4, g5, g6, g7, g8, g9, (upd_ne z).trans g10, (upd_ne z).trans g11, g12, fun j hj => ?_⟩
      obtain ⟨v, v1, v2, v3⟩ := g13 j hj
      exact ⟨v, (upd_ne (by omega)).trans v1, v2, v3⟩
  · intro k h1 h2
    have f := h.fz k h1 h2
    exact ⟨(upd_ne (by omega)).trans f.1, (upd_ne (by omega)).trans f.2⟩
  · intro q hq
    show upd (A 18) (16 * p2 + c2) (V 0) q = upd (A 38) (16 * p2 + c2) (V 7) q
    by_cases z : q = 16 * p2 + c2
    · rw [z, upd_at, upd_at, h.v0, h.v7]
    · rw [upd_ne z, upd_ne z]; exact h.us q hq
theorem Rel.use0 {A : Nat → Nat → Int32} {V : Nat → Int32} {n r D m : Nat} (h : Rel A V n r D m) {p2 c2 : Nat} : Rel (mUse2 (va_up A 18 (upd (A 18) (16 * p2 + c2) (V 0))) V p2 c2) (va_up V 6 0) n r D m := by
  refine Rel.mk (h.n16) (h.r300) (h.D9) (h.m12) (h.v0) (h.v1) (h.v2) (h.v3) (h.v4.trans (congrArg nI (mPs_c (A := A) (B := (mUse2 (va_up A 18 (upd (A 18) (16 * p2 + c2) (V 0))) V p2 c2)) rfl r).symm)) (h.v5) (h.v7) (h.v9) (h.v10) (h.v11) (h.tm) (h.pm) (h.cp) (h.rt) (h.nd) (h.nn) (h.wy) (h.tc) (h.tz) (fun c9 hc => (h.td c9 hc).trans (congrArg nI (mToday_c (A := A) (B := (mUse2 (va_up A 18 (upd (A 18) (16 * p2 + c2) (V 0))) V p2 c2)) (V := V) (V' := (va_up V 6 0)) rfl rfl rfl c9 r).symm)) (fun c9 hc => (h.st c9 hc).trans (mHas_c (A := A) (B := (mUse2 (va_up A 18 (upd (A 18) (16 * p2 + c2) (V 0))) V p2 c2)) rfl _ r).symm) (h.rw) (h.fz) (fun p9 c9 hp hc => (h.lp p9 c9 hp hc).trans (mPass_c (A := A) (B := (mUse2 (va_up A 18 (upd (A 18) (16 * p2 + c2) (V 0))) V p2 c2)) rfl rfl rfl rfl _ _ _ r).symm) (fun k9 hk => (h.pb k9 hk).trans (mPass_c (A := A) (B := (mUse2 (va_up A 18 (upd (A 18) (16 * p2 + c2) (V 0))) V p2 c2)) rfl rfl rfl rfl _ _ _ k9).symm) (fun p9 c9 x9 hp hc hx e => h.lt p9 c9 x9 hp hc hx ((mLate_c (A := A) (B := (mUse2 (va_up A 18 (upd (A 18) (16 * p2 + c2) (V 0))) V p2 c2)) rfl rfl _ _ r).symm.trans e)) (fun p9 c9 hp hc => (h.fl p9 c9 hp hc).trans (congrArg nI (mFails_c (A := A) (B := (mUse2 (va_up A 18 (upd (A 18) (16 * p2 + c2) (V 0))) V p2 c2)) rfl rfl rfl _ _ r).symm)) (?_) (h.sd)
  · intro q hq
    show upd (A 18) (16 * p2 + c2) (V 0) q = upd (A 38) (16 * p2 + c2) (V 7) q
    by_cases z : q = 16 * p2 + c2
    · rw [z, upd_at, upd_at, h.v0, h.v7]
    · rw [upd_ne z, upd_ne z]; exact h.us q hq
theorem Mt_F {F G : Nat → Nat → Prop} {T X : Nat → Prop} {n : Nat} {g : Nat → Option Nat} (h : ∀ s p, s < n → p < 20 → (F s p ↔ G s p)) (hT : ∀ s, T s → s < n) (m : Mt F T X g) : Mt G T X g :=
  ⟨fun p s e => ⟨(m.1 p s e).1, (m.1 p s e).2.1, (m.1 p s e).2.2.1, (h s p (hT s (m.1 p s e).2.1) (m.1 p s e).1).mp (m.1 p s e).2.2.2⟩, m.2⟩
theorem isMx_F {F G : Nat → Nat → Prop} {T X : Nat → Prop} {n k : Nat} (h : ∀ s p, s < n → p < 20 → (F s p ↔ G s p)) (hT : ∀ s, T s → s < n) (m : isMx F T X k) : isMx G T X k := by
  obtain ⟨⟨g, g1, g2⟩, l⟩ := m
  exact ⟨⟨g, Mt_F h hT g1, g2⟩, fun g' m' => l g' (Mt_F (fun s p h1 h2 => (h s p h1 h2).symm) hT m')⟩
theorem OKp_F {F G : Nat → Nat → Prop} {X : Nat → Prop} {n s k p : Nat} (h : ∀ s p, s < n → p < 20 → (F s p ↔ G s p)) (hs : s < n) (m : OKp F n X s k p) : OKp G n X s k p := by
  obtain ⟨h1, h2, h3, j, h4, h5⟩ := m
  exact ⟨h1, (h s p hs h1).mp h2, h3, j, h4, isMx_F h (fun t ht => ht.2) h5⟩
theorem First_F {F G : Nat → Nat → Prop} {n s : Nat} {fx : Nat → Option Nat} {lf : Nat → Nat} (h : ∀ s p, s < n → p < 20 → (F s p ↔ G s p)) (hs : s ≤ n) (m : First F n fx lf s) : First G n fx lf s := by
  have h' : ∀ s p, s < n → p < 20 → (G s p ↔ F s p) := fun s p h1 h2 => (h s p h1 h2).symm
  refine ⟨isMx_F h (fun t ht => ht.2) m.1, fun t ht => ?_⟩
  rcases m.2 t ht with ⟨p, e1, e2, e3, e4⟩ | ⟨e1, e2, e3⟩
  · exact Or.inl ⟨p, e1, OKp_F h (by omega) e2, fun q hq z => e3 q hq (OKp_F h' (by omega) z), e4⟩
  · exact Or.inr ⟨e1, fun q z => e2 q (OKp_F h' (by omega) z), e3⟩
theorem rP_u {x y : Int32} {o : Option Nat} (h1 : rP x o) (h2 : rP y o) : x = y := by
  cases o with
  | none => exact (show x = -1 from h1).trans (show y = -1 from h2).symm
  | some p => exact h1.2.trans h2.2.symm
theorem Rel.frame {A : Nat → Nat → Int32} {V : Nat → Int32} {n r D m : Nat} (h : Rel A V n r D m) {B : Nat → Nat → Int32} {W : Nat → Int32} {m2 : Nat} (hm : m2 ≤ 12) (hB : ∀ a, ¬ (20 ≤ a ∧ a ≤ 24) → a < 39 → B a = A a) (hs : ∀ s, s < m2 → B 21 s = B 39 s) (w0 : W 0 = V 0) (w1 : W 1 = V 1) (w2 : W 2 = V 2) (w3 : W 3 = V 3) (w4 : W 4 = V 4) (w5 : W 5 = nI m2) (w7 : W 7 = V 7) (w8 : W 8 = V 8) (w9 : W 9 = V 9) (w10 : W 10 = V 10) (w11 : W 11 = nI m2) : Rel B W n r D m2 := by
  have e2 := hB 2 (by omega) (by omega)
  have e3 := hB 3 (by omega) (by omega)
  have e4 := hB 4 (by omega) (by omega)
  have e5 := hB 5 (by omega) (by omega)
  have e6 := hB 6 (by omega) (by omega)
  have e7 := hB 7 (by omega) (by omega)
  have e8 := hB 8 (by omega) (by omega)
  have e9 := hB 9 (by omega) (by omega)
  have e10 := hB 10 (by omega) (by omega)
  have e12 := hB 12 (by omega) (by omega)
  have e13 := hB 13 (by omega) (by omega)
  have e14 := hB 14 (by omega) (by omega)
  have e15 := hB 15 (by omega) (by omega)
  have e16 := hB 16 (by omega) (by omega)
  have e17 := hB 17 (by omega) (by omega)
  have e18 := hB 18 (by omega) (by omega)
  have e26 := hB 26 (by omega) (by omega)
  have e27 := hB 27 (by omega) (by omega)
  have e28 := hB 28 (by omega) (by omega)
  have e29 := hB 29 (by omega) (by omega)
  have e30 := hB 30 (by omega) (by omega)
  have e31 := hB 31 (by omega) (by omega)
  have e32 := hB 32 (by omega) (by omega)
  have e33 := hB 33 (by omega) (by omega)
  have e34 := hB 34 (by omega) (by omega)
  have e35 := hB 35 (by omega) (by omega)
  have e36 := hB 36 (by omega) (by omega)
  have e37 := hB 37 (by omega) (by omega)
  have e38 := hB 38 (by omega) (by omega)
  exact Rel.mk (h.n16) (h.r300) (h.D9) (hm) (w0.trans h.v0) ((w1.trans h.v1).trans w8.symm) (w2.trans h.v2) (w3.trans h.v3) ((w4.trans h.v4).trans (congrArg nI (mPs_c (A := A) (B := B) e35 r).symm)) (w5) (w7.trans h.v7) (w9.trans h.v9) (w10.trans h.v10) (w11) (by rw [e26, e2]; exact h.tm) (by rw [e3, e27]; exact h.pm) (by rw [e28, e4]; exact h.cp) (by rw [e29, e5]; exact h.rt) (by rw [e6, e30]; exact h.nd) (by rw [e30]; exact h.nn) (by unfold mReach; rw [e7, e30]; exact h.wy) (by rw [e8, e31]; exact h.tc) (by rw [e31]; exact h.tz) (fun c9 hc => by rw [e9, mToday_c (A := A) (B := B) (V := V) (V' := W) e33 e34 w7]; exact h.td c9 hc) (fun c9 hc => by rw [e10, mHas_c (A := A) (B := B) e33]; exact h.st c9 hc) (by rw [e32, e33, e34, e12, e36, e14, e26, e37]; exact h.rw) (by rw [e14, e36]; exact h.fz) (fun p9 c9 hp hc => by rw [e15, mPass_c (A := A) (B := B) e32 e33 e34 e35]; exact h.lp p9 c9 hp hc) (fun k9 hk => by rw [e13, e32, e33, mPass_c (A := A) (B := B) e32 e33 e34 e35]; exact h.pb k9 hk) (fun p9 c9 x9 hp hc hx e => by rw [e16, e34]; exact h.lt p9 c9 x9 hp hc hx ((mLate_c (A := A) (B := B) e32 e33 _ _ r).symm.trans e)) (fun p9 c9 hp hc => by rw [e17, mFails_c (A := A) (B := B) e32 e33 e35]; exact h.fl p9 c9 hp hc) (by rw [e18, e38]; exact h.us) (hs)
theorem Rel.bad {A : Nat → Nat → Int32} {V : Nat → Int32} {n r D m k : Nat} {x : Int64} (h : Rel A V n r D m) (hk : k < 12) : cBad V x k ↔ sBad V x k := by
  unfold cBad sBad
  rw [cSe_m hk, h.v2, h.v9]
theorem Rel.plan {A : Nat → Nat → Int32} {V : Nat → Int32} {n r D m m2 : Nat} {x : Int64} {dd : Int32} {B C : Nat → Nat → Int32} {W : Nat → Int32} {fx fx' : Nat → Option Nat} {lf lf' : Nat → Nat} (h : Rel A V n r D m) (hm : m2 ≤ 12) (hok : ∀ j, j < m2 → ¬ cBad V x j) (hW7 : W 7 = V 7)
    (hB : ∀ a, ¬ a = 20 → ¬ a = 21 → ¬ a = 22 → ¬ a = 23 → ¬ a = 24 → B a = A a) (h1 : First (cF B) m2 fx lf m2) (h2 : ∀ s, s < m2 → rP (B 21 s) (fx s)) (h3 : ∀ s, s < m2 → B 20 s = cFit A V (cSeat x s).toNatClampNeg dd 20)
    (hC : fp B C) (g1 : First (mF C) m2 fx' lf' m2) (g2 : ∀ s, s < m2 → rP (C 39 s) (fx' s)) (g3 : ∀ s p, s < m2 → p < 20 → (mF C s p ↔ mFit B W r x dd s p)) (e : mEq A V B W) :
    lf 0 = lf' 0 ∧ Rel C (va_up (va_up (va_up V 5 (nI m2)) 6 0) 11 (nI m2)) n r D m2 := by
  have hn := h.n16
  have hF : ∀ s p, s < m2 → p < 20 → (mF C s p ↔ cF B s p) := by
    intro s p hs hp
    have hb := hok s hs
    have hb1 : ¬ cSeat x s < 0 := fun z => hb (Or.inl z)
    have hb2 : cSeat x s < nI n := by
      rw [← h.v2]
      exact Classical.byContradiction (fun z => hb (Or.inr z))
    obtain ⟨c, hc, ec⟩ := jnat hb1 hb2 (by omega)
    rw [g3 s p hs hp, e.fit]
    unfold cF
    rw [h3 s hs, ec, ncl (by omega)]
    exact (h.fit hp hc (by rw [← cSe_m (by omega)]; exact ec)).symm
  have g1' := First_F hF (Nat.le_refl _) g1
  have hu := First_u m2 h1 g1'
  refine ⟨isMx_u h1.1 g1'.1, ?_⟩
  refine h.frame hm (fun a ha hb => (hC a hb).trans (hB a (by omega) (by omega) (by omega) (by omega) (by omega))) (fun s hs => ?_) rfl rfl rfl rfl rfl rfl rfl rfl rfl rfl rfl
  rw [hC 21 (by omega)]
  exact rP_u (h2 s hs) (by rw [hu.2 s hs]; exact g2 s hs)

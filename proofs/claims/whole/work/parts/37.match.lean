/-! persons put to seats: g gives a person's seat -/
def gup (g : Nat → Option Nat) (p : Nat) (v : Option Nat) : Nat → Option Nat := fun q => if q = p then v else g q
theorem gup_at {g : Nat → Option Nat} {p : Nat} {v : Option Nat} : gup g p v p = v := if_pos rfl
theorem gup_ne {g : Nat → Option Nat} {p q : Nat} {v : Option Nat} (h : ¬ q = p) : gup g p v q = g q := if_neg h
def sz (g : Nat → Option Nat) : Nat → Nat
  | 0 => 0
  | k + 1 => sz g k + (if g k = none then 0 else 1)
theorem sz_le {g h : Nat → Option Nat} : ∀ k, (∀ p, p < k → ¬ g p = none → ¬ h p = none) → sz g k ≤ sz h k
  | 0, _ => Nat.le_refl _
  | k + 1, e => by
    have := sz_le k (fun p hp => e p (by omega))
    unfold sz
    by_cases z : g k = none
    · rw [if_pos z]; split <;> omega
    · rw [if_neg z, if_neg (e k (by omega) z)]; omega
theorem sz_eq {g h : Nat → Option Nat} (k : Nat) (e : ∀ p, p < k → (g p = none ↔ h p = none)) : sz g k = sz h k :=
  Nat.le_antisymm (sz_le k fun p hp z y => z ((e p hp).mpr y)) (sz_le k fun p hp z y => z ((e p hp).mp y))
theorem sz_add {g : Nat → Option Nat} {p s : Nat} (h : g p = none) : ∀ k, p < k → sz (gup g p (some s)) k = sz g k + 1
  | 0, hp => absurd hp (by omega)
  | k + 1, hp => by
    unfold sz
    by_cases e : p = k
    · subst e
      rw [gup_at, h, if_neg (by simp), if_pos rfl, sz_eq p (h := g)]
      intro q hq
      rw [gup_ne (by omega)]
    · rw [sz_add h k (by omega), gup_ne (by omega)]; omega
theorem sz_del {g : Nat → Option Nat} {p : Nat} (h : ¬ g p = none) {k : Nat} (hp : p < k) : sz g k = sz (gup g p none) k + 1 := by
  cases e : g p with
  | none => exact absurd e h
  | some s =>
    rw [← sz_add (s := s) gup_at k hp]
    congr 1
    funext q
    by_cases z : q = p
    · subst z; rw [gup_at, e]
    · rw [gup_ne z, gup_ne z]
/-- a plan over the seats T without the persons X -/
def Mt (F : Nat → Nat → Prop) (T X : Nat → Prop) (g : Nat → Option Nat) : Prop := (∀ p s, g p = some s → p < 20 ∧ T s ∧ ¬ X p ∧ F s p) ∧ ∀ p q s, g p = some s → g q = some s → p = q
def Lg (F : Nat → Nat → Prop) (T X : Nat → Prop) (k : Nat) : Prop := ∀ h, Mt F T X h → sz h 20 ≤ k
/-- the search from the seats S reached R alone: still a largest -/
theorem fail_all {F : Nat → Nat → Prop} {T X R S : Nat → Prop} {g : Nat → Option Nat} (hg : Mt F T X g) (hL : Lg F T X (sz g 20)) (h1 : ∀ e, S e → ∀ p, p < 20 → ¬ X p → F e p → R p) (h2 : ∀ p, R p → ∃ t, g p = some t ∧ ∀ q, q < 20 → ¬ X q → F t q → R q) : Lg F (fun s => T s ∨ S s) X (sz g 20) := by
  intro h hh
  have hm : ∃ n : Nat → Option Nat, ∀ p, (R p → n p = g p) ∧ (¬ R p → n p = h p) := ⟨fun p => @ite _ (R p) (Classical.propDecidable _) (g p) (h p), fun p => ⟨fun z => by simp [z], fun z => by simp [z]⟩⟩
  obtain ⟨n, hn⟩ := hm
  have no : ∀ p q t, ¬ R p → R q → h p = some t → g q = some t → False := by
    intro p q t hp hq e1 e2
    obtain ⟨t', e3, c⟩ := h2 q hq
    rw [e2] at e3
    cases e3
    obtain ⟨a1, _, a3, a4⟩ := hh.1 p t e1
    exact hp (c p a1 a3 a4)
  have hM : Mt F T X n := by
    refine ⟨fun p s e1 => ?_, fun p q s e1 e2 => ?_⟩
    · by_cases hp : R p
      · rw [(hn p).1 hp] at e1; exact hg.1 p s e1
      · rw [(hn p).2 hp] at e1
        obtain ⟨a1, a2, a3, a4⟩ := hh.1 p s e1
        refine ⟨a1, a2.elim id (fun z => ?_), a3, a4⟩
        exact absurd (h1 s z p a1 a3 a4) hp
    · by_cases hp : R p <;> by_cases hq : R q
      · rw [(hn p).1 hp] at e1; rw [(hn q).1 hq] at e2; exact hg.2 p q s e1 e2
      · rw [(hn p).1 hp] at e1; rw [(hn q).2 hq] at e2; exact (no q p s hq hp e2 e1).elim
      · rw [(hn p).2 hp] at e1; rw [(hn q).1 hq] at e2; exact (no p q s hp hq e1 e2).elim
      · rw [(hn p).2 hp] at e1; rw [(hn q).2 hq] at e2; exact hh.2 p q s e1 e2
  refine Nat.le_trans (sz_le 20 fun p _ z => ?_) (hL n hM)
  by_cases hp : R p
  · rw [(hn p).1 hp]
    obtain ⟨t, e1, _⟩ := h2 p hp
    rw [e1]; simp
  · rw [(hn p).2 hp]; exact z
theorem fail_max {F : Nat → Nat → Prop} {T X R : Nat → Prop} {g : Nat → Option Nat} {e : Nat} (hg : Mt F T X g) (hL : Lg F T X (sz g 20)) (h1 : ∀ p, p < 20 → ¬ X p → F e p → R p) (h2 : ∀ p, R p → ∃ t, g p = some t ∧ ∀ q, q < 20 → ¬ X q → F t q → R q) : Lg F (fun s => T s ∨ s = e) X (sz g 20) := fail_all (S := fun s => s = e) hg hL (fun e' z p a b c => h1 p a b (by rw [← show e' = e from z]; exact c)) h2
theorem Mt_del {F : Nat → Nat → Prop} {T T' X X' : Nat → Prop} {g : Nat → Option Nat} {b : Nat} (hg : Mt F T X g) (hT : ∀ p s, g p = some s → ¬ p = b → T' s) (hX : ∀ p s, g p = some s → ¬ p = b → ¬ X' p) : Mt F T' X' (gup g b none) := by
  have k : ∀ p s, gup g b none p = some s → g p = some s ∧ ¬ p = b := by
    intro p s e
    by_cases z : p = b
    · subst z; rw [gup_at] at e; cases e
    · rw [gup_ne z] at e; exact ⟨e, z⟩
  refine ⟨fun p s e => ?_, fun p q s e1 e2 => hg.2 p q s (k p s e1).1 (k q s e2).1⟩
  obtain ⟨e1, e2⟩ := k p s e
  obtain ⟨a1, a2, a3, a4⟩ := hg.1 p s e1
  exact ⟨a1, hT p s e1 e2, hX p s e1 e2, a4⟩
theorem succ_max {F : Nat → Nat → Prop} {T X : Nat → Prop} {k e : Nat} (hL : Lg F T X k) : Lg F (fun s => T s ∨ s = e) X (k + 1) := by
  intro h hh
  by_cases z : ∃ b, h b = some e
  · obtain ⟨b, hb⟩ := z
    have h1 := sz_del (g := h) (p := b) (by rw [hb]; simp) (hh.1 b e hb).1
    have h2 := hL _ (Mt_del (T' := T) (X' := X) (b := b) hh (fun p s e1 e2 => (hh.1 p s e1).2.1.elim id (fun y => by subst y; exact absurd (hh.2 p b s e1 hb) e2)) (fun p s e1 _ => (hh.1 p s e1).2.2.1))
    omega
  · have := hL h ⟨fun p s e1 => by
      obtain ⟨a1, a2, a3, a4⟩ := hh.1 p s e1
      exact ⟨a1, a2.elim id (fun y => by subst y; exact absurd ⟨p, e1⟩ z), a3, a4⟩, hh.2⟩
    omega
/-- a person in hand is put to a free seat e -/
theorem Mt_add {F : Nat → Nat → Prop} {T X : Nat → Prop} {g : Nat → Option Nat} {q e : Nat} (hg : Mt F T X g) (hq : q < 20) (hX : ¬ X q) (hF : F e q) (he : ∀ p, ¬ g p = some e) : Mt F (fun s => T s ∨ s = e) X (gup g q (some e)) := by
  refine ⟨fun p s h => ?_, fun p p' s h h' => ?_⟩
  · by_cases z : p = q
    · subst z; rw [gup_at] at h; cases h; exact ⟨hq, Or.inr rfl, hX, hF⟩
    · rw [gup_ne z] at h
      obtain ⟨a1, a2, a3, a4⟩ := hg.1 p s h
      exact ⟨a1, Or.inl a2, a3, a4⟩
  · by_cases z : p = q <;> by_cases z' : p' = q
    · rw [z, z']
    · subst z; rw [gup_at] at h; cases h; rw [gup_ne z'] at h'; exact absurd h' (he p')
    · subst z'; rw [gup_at] at h'; cases h'; rw [gup_ne z] at h; exact absurd h (he p)
    · rw [gup_ne z] at h; rw [gup_ne z'] at h'; exact hg.2 p p' s h h'
/-- a person in hand is put to b's seat, and b is in hand -/
theorem Mt_mv {F : Nat → Nat → Prop} {T X : Nat → Prop} {g : Nat → Option Nat} {q b t : Nat} (hg : Mt F T X g) (hq : q < 20) (hX : ¬ X q) (hF : F t q) (hb : g b = some t) : Mt F T X (gup (gup g b none) q (some t)) := by
  have h1 : Mt F T X (gup g b none) := Mt_del hg (fun p s e _ => (hg.1 p s e).2.1) (fun p s e _ => (hg.1 p s e).2.2.1)
  have h2 := Mt_add h1 hq hX hF (e := t) (fun p => by
    by_cases z : p = b
    · subst z; rw [gup_at]; simp
    · rw [gup_ne z]; exact fun y => z (hg.2 p b t y hb))
  refine ⟨fun p s e => ?_, h2.2⟩
  obtain ⟨a1, a2, a3, a4⟩ := h2.1 p s e
  exact ⟨a1, a2.elim id (fun y => by subst y; exact (hg.1 b s hb).2.1), a3, a4⟩
theorem sz_mv {g : Nat → Option Nat} {q b t : Nat} (hq : q < 20) (hb20 : b < 20) (h0 : g q = none) (hb : g b = some t) : sz (gup (gup g b none) q (some t)) 20 = sz g 20 := by
  have hne : ¬ q = b := fun z => by rw [z, hb] at h0; cases h0
  rw [sz_add (by rw [gup_ne hne]; exact h0) 20 hq, ← sz_del (by rw [hb]; simp) hb20]
/-- as many places as fit -/
theorem pigeon : ∀ (n m : Nat) (f : Nat → Nat), (∀ i, i < m → f i < n) → (∀ i j, i < m → j < m → f i = f j → i = j) → m ≤ n
  | 0, m, f, h, _ => by
    rcases Nat.eq_zero_or_pos m with z | z
    · omega
    · exact absurd (h 0 z) (by omega)
  | n + 1, 0, f, h, hi => by omega
  | n + 1, m + 1, f, h, hi => by
    -- leave out the place whose value is n, by putting f m there
    have := pigeon n m (fun i => if f i = n then f m else f i) (fun i hi2 => by
      split
      · rename_i z
        have h1 := h m (by omega)
        have h2 : ¬ f m = n := fun y => by have := hi i m (by omega) (by omega) (z.trans y.symm); omega
        omega
      · have := h i (by omega); omega) (fun i j h1 h2 e => by
      split at e <;> split at e
      · rename_i a b; exact hi i j (by omega) (by omega) (a.trans b.symm)
      · have := hi m j (by omega) (by omega) e; omega
      · have := hi i m (by omega) (by omega) e; omega
      · exact hi i j (by omega) (by omega) e)
    omega

/-! a search from an empty seat e: fr the seat from which a person was reached, rk ranks -/
def CH (F : Nat → Nat → Prop) (Y : Nat → Prop) (g : Nat → Option Nat) (e : Nat) (fr : Nat → Option Nat) (rk : Nat → Nat) : Prop := ∀ q t, fr q = some t → q < 20 ∧ t < 12 ∧ F t q ∧ ¬ Y q ∧ (t = e ∨ ∃ b, g b = some t ∧ ¬ fr b = none ∧ rk b < rk q)
/-- the person q is in hand -/
def HS (F : Nat → Nat → Prop) (T X Y : Nat → Prop) (e : Nat) (fr : Nat → Option Nat) (rk : Nat → Nat) (g0 g : Nat → Option Nat) (q : Nat) : Prop := Mt F T X g ∧ g q = none ∧ ¬ fr q = none ∧ sz g 20 = sz g0 20 ∧ (∀ b, ¬ fr b = none → rk b < rk q → g b = g0 b) ∧ (∀ p, ¬ g p = some e) ∧ ∀ p, Y p → g p = g0 p
theorem hs_end {F : Nat → Nat → Prop} {T X Y : Nat → Prop} {e : Nat} {fr : Nat → Option Nat} {rk : Nat → Nat} {g0 g : Nat → Option Nat} {q : Nat} (hC : CH F Y g0 e fr rk) (hXY : ∀ p, X p → Y p) (hT : T e) (h : HS F T X Y e fr rk g0 g q) (hq : fr q = some e) : Mt F T X (gup g q (some e)) ∧ sz (gup g q (some e)) 20 = sz g0 20 + 1 ∧ ∀ p, Y p → gup g q (some e) p = g0 p := by
  obtain ⟨c1, c2, c3, c4, c5⟩ := hC q e hq
  obtain ⟨h1, h2, h3, h4, h5, h6, h7⟩ := h
  have m := Mt_add h1 c1 (fun z => c4 (hXY q z)) c3 h6
  refine ⟨⟨fun p s z => ?_, m.2⟩, by rw [sz_add h2 20 c1, h4], fun p hp => ?_⟩
  · obtain ⟨a1, a2, a3, a4⟩ := m.1 p s z
    exact ⟨a1, a2.elim id (fun y => by subst y; exact hT), a3, a4⟩
  · rw [gup_ne (fun z => c4 (by rw [← z]; exact hp))]; exact h7 p hp
theorem hs_step {F : Nat → Nat → Prop} {T X Y : Nat → Prop} {e t : Nat} {fr : Nat → Option Nat} {rk : Nat → Nat} {g0 g : Nat → Option Nat} {q : Nat} (hC : CH F Y g0 e fr rk) (hXY : ∀ p, X p → Y p) (h : HS F T X Y e fr rk g0 g q) (hq : fr q = some t) (hte : ¬ t = e) : ∃ b, g b = some t ∧ b < 20 ∧ ¬ b = q ∧ rk b < rk q ∧ HS F T X Y e fr rk g0 (gup (gup g b none) q (some t)) b := by
  obtain ⟨c1, c2, c3, c4, c5⟩ := hC q t hq
  obtain ⟨h1, h2, h3, h4, h5, h6, h7⟩ := h
  obtain ⟨b, b1, b2, b3⟩ := c5.resolve_left hte
  have gb : g b = some t := by rw [h5 b b2 b3]; exact b1
  have hbq : ¬ b = q := fun z => by rw [z] at b3; omega
  have hb20 := (h1.1 b t gb).1
  refine ⟨b, gb, hb20, hbq, b3, Mt_mv h1 c1 (fun z => c4 (hXY q z)) c3 gb, ?_, b2, by rw [sz_mv c1 hb20 h2 gb, h4], fun b' e1 e2 => ?_, fun p z => ?_, fun p hp => ?_⟩
  · rw [gup_ne hbq, gup_at]
  · rw [gup_ne (fun z => by rw [z] at e2; omega), gup_ne (fun z => by rw [z] at e2; omega)]
    exact h5 b' e1 (by omega)
  · by_cases y : p = q
    · subst y; rw [gup_at] at z; cases z; exact hte rfl
    · rw [gup_ne y] at z
      by_cases y' : p = b
      · subst y'; rw [gup_at] at z; cases z
      · rw [gup_ne y'] at z; exact h6 p z
  · have hpq : ¬ p = q := fun z => c4 (by rw [← z]; exact hp)
    have hpb : ¬ p = b := fun z => by
      cases y : fr b with
      | none => exact b2 y
      | some u => exact (hC b u y).2.2.2.1 (by rw [← z]; exact hp)
    rw [gup_ne hpq, gup_ne hpb]; exact h7 p hp
def nup (f : Nat → Nat) (p v : Nat) : Nat → Nat := fun q => if q = p then v else f q
theorem nup_at {f : Nat → Nat} {p v : Nat} : nup f p v p = v := if_pos rfl
theorem nup_ne {f : Nat → Nat} {p q v : Nat} (h : ¬ q = p) : nup f p v q = f q := if_neg h
/-- the model's search: a queue of persons -/
def SIm (F : Nat → Nat → Prop) (Y : Nat → Prop) (g : Nat → Option Nat) (e : Nat) (fr : Nat → Option Nat) (rk qu : Nat → Nat) (tl : Nat) : Prop := CH F Y g e fr rk ∧ (∀ q, ¬ fr q = none → rk q < tl ∧ qu (rk q) = q) ∧ ∀ j, j < tl → ¬ fr (qu j) = none ∧ rk (qu j) = j
theorem fr_lt {F : Nat → Nat → Prop} {Y : Nat → Prop} {g : Nat → Option Nat} {e : Nat} {fr : Nat → Option Nat} {rk : Nat → Nat} (h : CH F Y g e fr rk) {q : Nat} (hq : ¬ fr q = none) : q < 20 := by
  cases y : fr q with
  | none => exact absurd y hq
  | some t => exact (h q t y).1
theorem SIm_0 {F : Nat → Nat → Prop} {Y : Nat → Prop} {g : Nat → Option Nat} {e : Nat} {rk qu : Nat → Nat} : SIm F Y g e (fun _ => none) rk qu 0 := ⟨fun _ _ h => (by cases h), fun _ h => absurd rfl h, fun _ h => absurd h (by omega)⟩
theorem SIm_tl {F : Nat → Nat → Prop} {Y : Nat → Prop} {g : Nat → Option Nat} {e : Nat} {fr : Nat → Option Nat} {rk qu : Nat → Nat} {tl : Nat} (h : SIm F Y g e fr rk qu tl) : tl ≤ 20 := by
  refine pigeon 20 tl qu (fun j hj => fr_lt h.1 (h.2.2 j hj).1) (fun i j hi hj z => ?_)
  rw [← (h.2.2 i hi).2, ← (h.2.2 j hj).2, z]
theorem SIm_add {F : Nat → Nat → Prop} {Y : Nat → Prop} {g : Nat → Option Nat} {e q t : Nat} {fr : Nat → Option Nat} {rk qu : Nat → Nat} {tl : Nat} (h : SIm F Y g e fr rk qu tl) (hq : fr q = none) (h1 : q < 20) (h2 : t < 12) (h3 : F t q) (h4 : ¬ Y q) (h5 : t = e ∨ ∃ b, g b = some t ∧ ¬ fr b = none) : SIm F Y g e (gup fr q (some t)) (nup rk q tl) (nup qu tl q) (tl + 1) := by
  have ne : ∀ b, ¬ fr b = none → ¬ b = q := fun b hb z => hb (by rw [z]; exact hq)
  refine ⟨fun q' t' z => ?_, fun q' z => ?_, fun j hj => ?_⟩
  · by_cases y : q' = q
    · subst y
      rw [gup_at] at z; cases z
      refine ⟨h1, h2, h3, h4, h5.imp id (fun ⟨b, b1, b2⟩ => ⟨b, b1, by rw [gup_ne (ne b b2)]; exact b2, ?_⟩)⟩
      rw [nup_at, nup_ne (ne b b2)]
      exact (h.2.1 b b2).1
    · rw [gup_ne y] at z
      obtain ⟨c1, c2, c3, c4, c5⟩ := h.1 q' t' z
      refine ⟨c1, c2, c3, c4, c5.imp id (fun ⟨b, b1, b2, b3⟩ => ⟨b, b1, by rw [gup_ne (ne b b2)]; exact b2, ?_⟩)⟩
      rw [nup_ne y, nup_ne (ne b b2)]; exact b3
  · by_cases y : q' = q
    · subst y; rw [nup_at, nup_at]; exact ⟨by omega, rfl⟩
    · rw [gup_ne y] at z
      obtain ⟨a, b⟩ := h.2.1 q' z
      rw [nup_ne y, nup_ne (by omega)]; exact ⟨by omega, b⟩
  · by_cases y : j = tl
    · subst y; rw [nup_at, gup_at, nup_at]; exact ⟨by simp, rfl⟩
    · obtain ⟨a, b⟩ := h.2.2 j (by omega)
      rw [nup_ne y, gup_ne (ne _ a), nup_ne (ne _ a)]; exact ⟨a, b⟩
theorem SIm_lt {F : Nat → Nat → Prop} {Y : Nat → Prop} {g : Nat → Option Nat} {e q t : Nat} {fr : Nat → Option Nat} {rk qu : Nat → Nat} {tl : Nat} (h : SIm F Y g e fr rk qu tl) (hq : fr q = none) (h1 : q < 20) (h2 : t < 12) (h3 : F t q) (h4 : ¬ Y q) (h5 : t = e ∨ ∃ b, g b = some t ∧ ¬ fr b = none) : tl < 20 := by
  have := SIm_tl (SIm_add h hq h1 h2 h3 h4 h5)
  omega
/-! the class's search, from all empty seats S at once -/
def CHs (F : Nat → Nat → Prop) (Y : Nat → Prop) (g : Nat → Option Nat) (S : Nat → Prop) (fr : Nat → Option Nat) (rk : Nat → Nat) : Prop := ∀ q t, fr q = some t → q < 20 ∧ t < 12 ∧ F t q ∧ ¬ Y q ∧ (S t ∨ ∃ b, g b = some t ∧ ¬ fr b = none ∧ rk b < rk q)
/-- the person q is in hand -/
def HSs (F : Nat → Nat → Prop) (T Y S : Nat → Prop) (fr : Nat → Option Nat) (rk : Nat → Nat) (g0 g : Nat → Option Nat) (q : Nat) : Prop := Mt F T Y g ∧ g q = none ∧ ¬ fr q = none ∧ sz g 20 = sz g0 20 ∧ (∀ b, ¬ fr b = none → rk b < rk q → g b = g0 b) ∧ ∀ s, S s → ∀ p, ¬ g p = some s
theorem hss_0 {F : Nat → Nat → Prop} {T Y S : Nat → Prop} {fr : Nat → Option Nat} {rk : Nat → Nat} {g : Nat → Option Nat} {q : Nat} (hg : Mt F T Y g) (h0 : g q = none) (hq : ¬ fr q = none) (hS : ∀ s, S s → ∀ p, ¬ g p = some s) : HSs F T Y S fr rk g g q := ⟨hg, h0, hq, rfl, fun _ _ _ => rfl, hS⟩
theorem hss_end {F : Nat → Nat → Prop} {T Y S : Nat → Prop} {t : Nat} {fr : Nat → Option Nat} {rk : Nat → Nat} {g0 g : Nat → Option Nat} {q : Nat} (hC : CHs F Y g0 S fr rk) (hT : T t) (h : HSs F T Y S fr rk g0 g q) (hq : fr q = some t) (ht : S t) : Mt F T Y (gup g q (some t)) ∧ sz (gup g q (some t)) 20 = sz g0 20 + 1 := by
  obtain ⟨c1, c2, c3, c4, c5⟩ := hC q t hq
  obtain ⟨h1, h2, h3, h4, h5, h6⟩ := h
  have m := Mt_add h1 c1 c4 c3 (h6 t ht)
  refine ⟨⟨fun p s z => ?_, m.2⟩, by rw [sz_add h2 20 c1, h4]⟩
  obtain ⟨a1, a2, a3, a4⟩ := m.1 p s z
  exact ⟨a1, a2.elim id (fun y => by subst y; exact hT), a3, a4⟩
theorem hss_step {F : Nat → Nat → Prop} {T Y S : Nat → Prop} {t : Nat} {fr : Nat → Option Nat} {rk : Nat → Nat} {g0 g : Nat → Option Nat} {q : Nat} (hC : CHs F Y g0 S fr rk) (h : HSs F T Y S fr rk g0 g q) (hq : fr q = some t) (hte : ¬ S t) : ∃ b, g b = some t ∧ b < 20 ∧ ¬ b = q ∧ rk b < rk q ∧ HSs F T Y S fr rk g0 (gup (gup g b none) q (some t)) b := by
  obtain ⟨c1, c2, c3, c4, c5⟩ := hC q t hq
  obtain ⟨h1, h2, h3, h4, h5, h6⟩ := h
  obtain ⟨b, b1, b2, b3⟩ := c5.resolve_left hte
  have gb : g b = some t := by rw [h5 b b2 b3]; exact b1
  have hbq : ¬ b = q := fun z => by rw [z] at b3; omega
  have hb20 := (h1.1 b t gb).1
  refine ⟨b, gb, hb20, hbq, b3, Mt_mv h1 c1 c4 c3 gb, ?_, b2, by rw [sz_mv c1 hb20 h2 gb, h4], fun b' e1 e2 => ?_, fun s hs p z => ?_⟩
  · rw [gup_ne hbq, gup_at]
  · rw [gup_ne (fun z => by rw [z] at e2; omega), gup_ne (fun z => by rw [z] at e2; omega)]
    exact h5 b' e1 (by omega)
  · by_cases y : p = q
    · subst y; rw [gup_at] at z; cases z; exact hte hs
    · rw [gup_ne y] at z
      by_cases y' : p = b
      · subst y'; rw [gup_at] at z; cases z
      · rw [gup_ne y'] at z; exact h6 s hs p z
/-- a queue of seats: the empty ones on the places before c, behind them the seats of reached persons -/
def SIc (F : Nat → Nat → Prop) (Y : Nat → Prop) (g : Nat → Option Nat) (S : Nat → Prop) (c : Nat) (fr : Nat → Option Nat) (rk ix qs : Nat → Nat) (m : Nat) : Prop := (∀ q t, fr q = some t → q < 20 ∧ F t q ∧ ¬ Y q ∧ rk q < m ∧ qs (rk q) = t) ∧ ((∀ j, j < c → S (qs j)) ∧ (∀ i j, i < c → j < c → qs i = qs j → i = j) ∧ ∀ s, S s → ∃ j, j < c ∧ qs j = s) ∧ c ≤ m ∧ (∀ j, c ≤ j → j < m → ∃ b, ¬ fr b = none ∧ rk b < j ∧ g b = some (qs j) ∧ ix b = j) ∧ (∀ b, ¬ fr b = none → c ≤ ix b ∧ ix b < m ∧ g b = some (qs (ix b)))
theorem SIc_0 {F : Nat → Nat → Prop} {Y : Nat → Prop} {g : Nat → Option Nat} {S : Nat → Prop} {c : Nat} {rk ix qs : Nat → Nat} (h1 : ∀ j, j < c → S (qs j)) (h2 : ∀ i j, i < c → j < c → qs i = qs j → i = j) (h3 : ∀ s, S s → ∃ j, j < c ∧ qs j = s) : SIc F Y g S c (fun _ => none) rk ix qs c := ⟨fun _ _ h => (by cases h), ⟨h1, h2, h3⟩, Nat.le_refl _, fun _ h1 h2 => absurd h1 (by omega), fun _ h => absurd rfl h⟩
theorem SIc_s {F : Nat → Nat → Prop} {T X Y S : Nat → Prop} {g : Nat → Option Nat} {c : Nat} {fr : Nat → Option Nat} {rk ix qs : Nat → Nat} {m : Nat} (h : SIc F Y g S c fr rk ix qs m) (hg : Mt F T X g) (hT : ∀ s, T s → s < 12) (hS : ∀ s, S s → T s ∧ ∀ p, ¬ g p = some s) {j : Nat} (hj : j < m) : qs j < 12 := by
  by_cases z : j < c
  · exact hT _ (hS _ (h.2.1.1 j z)).1
  · obtain ⟨b, _, _, b3, _⟩ := h.2.2.2.1 j (by omega) hj
    exact hT _ (hg.1 b _ b3).2.1
theorem SIc_CH {F : Nat → Nat → Prop} {T X Y S : Nat → Prop} {g : Nat → Option Nat} {c : Nat} {fr : Nat → Option Nat} {rk ix qs : Nat → Nat} {m : Nat} (h : SIc F Y g S c fr rk ix qs m) (hg : Mt F T X g) (hT : ∀ s, T s → s < 12) (hS : ∀ s, S s → T s ∧ ∀ p, ¬ g p = some s) : CHs F Y g S fr rk := by
  intro q t z
  obtain ⟨c1, c2, c3, c4, c5⟩ := h.1 q t z
  refine ⟨c1, by rw [← c5]; exact SIc_s h hg hT hS c4, c2, c3, ?_⟩
  by_cases y : rk q < c
  · left; rw [← c5]; exact h.2.1.1 _ y
  · right
    obtain ⟨b, b1, b2, b3, _⟩ := h.2.2.2.1 (rk q) (by omega) c4
    exact ⟨b, by rw [b3, c5], b1, b2⟩
theorem SIc_m {F : Nat → Nat → Prop} {T X Y S : Nat → Prop} {g : Nat → Option Nat} {c : Nat} {fr : Nat → Option Nat} {rk ix qs : Nat → Nat} {m : Nat} (h : SIc F Y g S c fr rk ix qs m) (hg : Mt F T X g) (hT : ∀ s, T s → s < 12) (hS : ∀ s, S s → T s ∧ ∀ p, ¬ g p = some s) : m ≤ 12 := by
  refine pigeon 12 m qs (fun j hj => SIc_s h hg hT hS hj) (fun i j hi hj z => ?_)
  by_cases zi : i < c <;> by_cases zj : j < c
  · exact h.2.1.2.1 i j zi zj z
  · obtain ⟨b, _, _, b3, _⟩ := h.2.2.2.1 j (by omega) hj
    rw [← z] at b3; exact absurd b3 ((hS _ (h.2.1.1 i zi)).2 b)
  · obtain ⟨b, _, _, b3, _⟩ := h.2.2.2.1 i (by omega) hi
    rw [z] at b3; exact absurd b3 ((hS _ (h.2.1.1 j zj)).2 b)
  · obtain ⟨b, _, _, b3, b4⟩ := h.2.2.2.1 i (by omega) hi
    obtain ⟨b', _, _, b3', b4'⟩ := h.2.2.2.1 j (by omega) hj
    have := hg.2 b b' (qs j) (by rw [b3, z]) b3'
    rw [← b4, ← b4', this]
/-- a person q is reached from the seat of place j, and sits on s -/
theorem SIc_add {F : Nat → Nat → Prop} {Y S : Nat → Prop} {g : Nat → Option Nat} {c q s j : Nat} {fr : Nat → Option Nat} {rk ix qs : Nat → Nat} {m : Nat} (h : SIc F Y g S c fr rk ix qs m) (hq : fr q = none) (h1 : q < 20) (hj : j < m) (h3 : F (qs j) q) (h4 : ¬ Y q) (h5 : g q = some s) : SIc F Y g S c (gup fr q (some (qs j))) (nup rk q j) (nup ix q m) (nup qs m s) (m + 1) := by
  have ne : ∀ b, ¬ fr b = none → ¬ b = q := fun b hb z => hb (by rw [z]; exact hq)
  have hm := h.2.2.1
  refine ⟨fun q' t' z => ?_, ⟨fun i hi => ?_, fun i k hi hk z => ?_, fun u hu => ?_⟩, by omega, fun i i1 i2 => ?_, fun b z => ?_⟩
  · by_cases y : q' = q
    · subst y
      rw [gup_at] at z; cases z
      exact ⟨h1, h3, h4, by rw [nup_at]; omega, by rw [nup_at, nup_ne (by omega)]⟩
    · rw [gup_ne y] at z
      obtain ⟨c1, c2, c3, c4, c5⟩ := h.1 q' t' z
      exact ⟨c1, c2, c3, by rw [nup_ne y]; omega, by rw [nup_ne y, nup_ne (by omega)]; exact c5⟩
  · rw [nup_ne (by omega)]; exact h.2.1.1 i hi
  · rw [nup_ne (by omega), nup_ne (by omega)] at z; exact h.2.1.2.1 i k hi hk z
  · obtain ⟨i, i1, i2⟩ := h.2.1.2.2 u hu
    exact ⟨i, i1, by rw [nup_ne (by omega)]; exact i2⟩
  · by_cases y : i = m
    · subst y
      exact ⟨q, by rw [gup_at]; simp, by rw [nup_at]; exact hj, by rw [nup_at]; exact h5, nup_at⟩
    · obtain ⟨b, b1, b2, b3, b4⟩ := h.2.2.2.1 i i1 (by omega)
      exact ⟨b, by rw [gup_ne (ne b b1)]; exact b1, by rw [nup_ne (ne b b1)]; exact b2, by rw [nup_ne y]; exact b3, by rw [nup_ne (ne b b1)]; exact b4⟩
  · by_cases y : b = q
    · subst y; rw [nup_at, nup_at]; exact ⟨by omega, by omega, h5⟩
    · rw [gup_ne y] at z
      obtain ⟨a, b1, b2⟩ := h.2.2.2.2 b z
      rw [nup_ne y, nup_ne (by omega)]
      exact ⟨a, by omega, b2⟩
theorem SIc_lt {F : Nat → Nat → Prop} {T X Y S : Nat → Prop} {g : Nat → Option Nat} {c q s j : Nat} {fr : Nat → Option Nat} {rk ix qs : Nat → Nat} {m : Nat} (h : SIc F Y g S c fr rk ix qs m) (hg : Mt F T X g) (hT : ∀ s, T s → s < 12) (hS : ∀ s, S s → T s ∧ ∀ p, ¬ g p = some s) (hq : fr q = none) (h1 : q < 20) (hj : j < m) (h3 : F (qs j) q) (h4 : ¬ Y q) (h5 : g q = some s) : m < 12 := by
  have := SIc_m (SIc_add h hq h1 hj h3 h4 h5) hg hT hS
  omega
/-- a free person q is reached from the seat of place j -/
theorem SIc_free {F : Nat → Nat → Prop} {T X Y S : Nat → Prop} {g : Nat → Option Nat} {c q j : Nat} {fr : Nat → Option Nat} {rk ix qs : Nat → Nat} {m : Nat} (h : SIc F Y g S c fr rk ix qs m) (hg : Mt F T X g) (hT : ∀ s, T s → s < 12) (hS : ∀ s, S s → T s ∧ ∀ p, ¬ g p = some s) (hq : fr q = none) (h1 : q < 20) (hj : j < m) (h3 : F (qs j) q) (h4 : ¬ Y q) : CHs F Y g S (gup fr q (some (qs j))) (nup rk q j) := by
  have ne : ∀ b, ¬ fr b = none → ¬ b = q := fun b hb z => hb (by rw [z]; exact hq)
  intro q' t z
  by_cases y : q' = q
  · subst y
    rw [gup_at] at z; cases z
    refine ⟨h1, SIc_s h hg hT hS hj, h3, h4, ?_⟩
    by_cases w : j < c
    · left; exact h.2.1.1 j w
    · right
      obtain ⟨b, b1, b2, b3, _⟩ := h.2.2.2.1 j (by omega) hj
      exact ⟨b, b3, by rw [gup_ne (ne b b1)]; exact b1, by rw [nup_at, nup_ne (ne b b1)]; exact b2⟩
  · rw [gup_ne y] at z
    obtain ⟨c1, c2, c3, c4, c5⟩ := SIc_CH h hg hT hS q' t z
    refine ⟨c1, c2, c3, c4, c5.imp id (fun ⟨b, b1, b2, b3⟩ => ⟨b, b1, by rw [gup_ne (ne b b2)]; exact b2, ?_⟩)⟩
    rw [nup_ne y, nup_ne (ne b b2)]; exact b3
theorem HS_0 {F : Nat → Nat → Prop} {T X Y : Nat → Prop} {e : Nat} {fr : Nat → Option Nat} {rk : Nat → Nat} {g : Nat → Option Nat} {q : Nat} (hg : Mt F T X g) (h0 : g q = none) (hq : ¬ fr q = none) (hge : ∀ p, ¬ g p = some e) : HS F T X Y e fr rk g g q := ⟨hg, h0, hq, rfl, fun _ _ _ => rfl, hge, fun _ _ => rfl⟩
/-! the first of the largest plans -/
def isMx (F : Nat → Nat → Prop) (T X : Nat → Prop) (k : Nat) : Prop := (∃ g, Mt F T X g ∧ sz g 20 = k) ∧ Lg F T X k
theorem isMx_u {F : Nat → Nat → Prop} {T X : Nat → Prop} {k k' : Nat} (h : isMx F T X k) (h' : isMx F T X k') : k = k' := by
  obtain ⟨⟨g, g1, g2⟩, l⟩ := h
  obtain ⟨⟨g', g1', g2'⟩, l'⟩ := h'
  have := l g' g1'
  have := l' g g1
  omega
def sT (a n : Nat) : Nat → Prop := fun s => a ≤ s ∧ s < n
def XU (X : Nat → Prop) (p : Nat) : Nat → Prop := fun q => X q ∨ q = p
def OKp (F : Nat → Nat → Prop) (n : Nat) (X : Nat → Prop) (s k p : Nat) : Prop := p < 20 ∧ F s p ∧ ¬ X p ∧ ∃ m, m + 1 = k ∧ isMx F (sT (s + 1) n) (XU X p) m
def Xs (fx : Nat → Option Nat) (s : Nat) : Nat → Prop := fun q => ∃ t, t < s ∧ fx t = some q
/-- seat s is settled right, with k to be seated from s on, k' behind it -/
def Stl (F : Nat → Nat → Prop) (n : Nat) (fx : Nat → Option Nat) (s k k' : Nat) : Prop := (∃ p, fx s = some p ∧ OKp F n (Xs fx s) s k p ∧ (∀ q, q < p → ¬ OKp F n (Xs fx s) s k q) ∧ k' + 1 = k) ∨ (fx s = none ∧ (∀ q, ¬ OKp F n (Xs fx s) s k q) ∧ k' = k)
def First (F : Nat → Nat → Prop) (n : Nat) (fx : Nat → Option Nat) (lf : Nat → Nat) (s : Nat) : Prop := isMx F (sT 0 n) (fun _ => False) (lf 0) ∧ ∀ t, t < s → Stl F n fx t (lf t) (lf (t + 1))
theorem Xs_c {fx fx' : Nat → Option Nat} {s : Nat} (h : ∀ t, t < s → fx t = fx' t) : Xs fx s = Xs fx' s := by
  funext q
  refine propext ⟨fun ⟨t, h1, h2⟩ => ⟨t, h1, by rw [← h t h1]; exact h2⟩, fun ⟨t, h1, h2⟩ => ⟨t, h1, by rw [h t h1]; exact h2⟩⟩
theorem First_u {F : Nat → Nat → Prop} {n : Nat} {fx fx' : Nat → Option Nat} {lf lf' : Nat → Nat} : ∀ s, First F n fx lf s → First F n fx' lf' s → lf s = lf' s ∧ ∀ t, t < s → fx t = fx' t
  | 0, h, h' => ⟨isMx_u h.1 h'.1, fun _ z => absurd z (by omega)⟩
  | s + 1, h, h' => by
    obtain ⟨e1, e2⟩ := First_u s ⟨h.1, fun t ht => h.2 t (by omega)⟩ ⟨h'.1, fun t ht => h'.2 t (by omega)⟩
    have a := h.2 s (by omega)
    have a' := h'.2 s (by omega)
    unfold Stl at a a'
    rw [← e1, ← Xs_c e2] at a'
    have k : lf (s + 1) = lf' (s + 1) ∧ fx s = fx' s := by
      rcases a with ⟨p, a1, a2, a3, a4⟩ | ⟨a1, a2, a3⟩ <;> rcases a' with ⟨p', b1, b2, b3, b4⟩ | ⟨b1, b2, b3⟩
      · have : p = p' := by
          rcases Nat.lt_trichotomy p p' with z | z | z
          · exact absurd a2 (b3 p z)
          · exact z
          · exact absurd b2 (a3 p' z)
        exact ⟨by omega, by rw [a1, b1, this]⟩
      · exact absurd a2 (b2 p)
      · exact absurd b2 (a2 p')
      · exact ⟨by omega, by rw [a1, b1]⟩
    refine ⟨k.1, fun t ht => ?_⟩
    by_cases y : t = s
    · subst y; exact k.2
    · exact e2 t (by omega)

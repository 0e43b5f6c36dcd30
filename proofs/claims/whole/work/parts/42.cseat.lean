theorem sz_pos {h : Nat → Option Nat} : ∀ k, 0 < sz h k → ∃ p, p < k ∧ ¬ h p = none
  | 0, z => absurd z (Nat.lt_irrefl 0)
  | k + 1, z => by
    unfold sz at z
    by_cases e : h k = none
    · rw [if_pos e] at z
      obtain ⟨p, h1, h2⟩ := sz_pos k (by omega)
      exact ⟨p, by omega, h2⟩
    · exact ⟨k, by omega, e⟩
theorem sz_inj {F F' : Nat → Nat → Prop} {T T' X X' : Nat → Prop} : ∀ (N : Nat) (h g : Nat → Option Nat), sz h 20 = N → Mt F T X h → Mt F' T' X' g → (∀ p t, h p = some t → ∃ b, g b = some t) → N ≤ sz g 20
  | 0, _, _, _, _, _, _ => Nat.zero_le _
  | N + 1, h, g, e, hh, hg, hs => by
    obtain ⟨p, hp, hn⟩ := sz_pos (h := h) 20 (by omega)
    cases y : h p with
    | none => exact absurd y hn
    | some t =>
      obtain ⟨b, hb⟩ := hs p t y
      have hb20 := (hg.1 b t hb).1
      have e1 := sz_del hn hp
      have e2 := sz_del (g := g) (p := b) (by rw [hb]; simp) hb20
      have := sz_inj N (gup h p none) (gup g b none) (by omega) (Mt_del hh (fun p s e _ => (hh.1 p s e).2.1) (fun p s e _ => (hh.1 p s e).2.2.1)) (Mt_del hg (fun p s e _ => (hg.1 p s e).2.1) (fun p s e _ => (hg.1 p s e).2.2.1)) (fun q u z => by
        by_cases w : q = p
        · subst w; rw [gup_at] at z; cases z
        · rw [gup_ne w] at z
          obtain ⟨c, hc⟩ := hs q u z
          refine ⟨c, ?_⟩
          by_cases w2 : c = b
          · subst w2
            rw [hb] at hc
            cases hc
            exact absurd (hh.2 q p t z y) w
          · rw [gup_ne w2]; exact hc)
      omega
theorem Lg_occ {F : Nat → Nat → Prop} {T T' X X' : Nat → Prop} {g : Nat → Option Nat} (hg : Mt F T X g) (h : ∀ t, T' t → ∃ p, g p = some t) : Lg F T' X' (sz g 20) := fun n hn => sz_inj _ n g rfl hn hg (fun p t e => h t (hn.1 p t e).2.1)
def cF (A : Nat → Nat → Int32) : Nat → Nat → Prop := fun s p => jbit (A 20 s) (nI p)
def onC (B : Nat → Nat → Int32) (g : Nat → Option Nat) (s : Nat) : Prop := (B 21 s = -1 ∧ ∀ p, ¬ g p = some s) ∨ ∃ p, g p = some s ∧ B 21 s = nI p
def rCH (B : Nat → Nat → Int32) (T Y : Nat → Prop) (g : Nat → Option Nat) (q : Nat) : Prop := (∀ p, p < 20 → ¬ Y p → ¬ p = q → rO (B 22 p) (g p)) ∧ ∀ s, s < 12 → T s → onC B g s
def rCY (B : Nat → Nat → Int32) (T Y : Nat → Prop) (g : Nat → Option Nat) : Prop := (∀ p, p < 20 → ¬ Y p → rO (B 22 p) (g p)) ∧ ∀ s, s < 12 → T s → onC B g s
def cSit (B : Nat → Nat → Int32) (s p : Nat) : Nat → Nat → Int32 := va_up (va_up B 21 (upd (B 21) s (nI p))) 22 (upd (B 22) p (nI s))
theorem cSit_21 {B : Nat → Nat → Int32} {s p : Nat} : cSit B s p 21 = upd (B 21) s (nI p) := rfl
theorem cSit_22 {B : Nat → Nat → Int32} {s p : Nat} : cSit B s p 22 = upd (B 22) p (nI s) := rfl
theorem sit_end {B : Nat → Nat → Int32} {T Y : Nat → Prop} {g : Nat → Option Nat} {q t : Nat} (h : rCH B T Y g q) (h0 : g q = none) (ht : t < 12) : rCY (cSit B t q) T Y (gup g q (some t)) := by
  refine ⟨fun p hp hY => ?_, fun s hs hT => ?_⟩
  · rw [cSit_22]
    by_cases z : p = q
    · subst z; rw [upd_at, gup_at]; exact ⟨ht, rfl⟩
    · rw [upd_ne z, gup_ne z]; exact h.1 p hp hY z
  · unfold onC
    rw [cSit_21]
    by_cases z : s = t
    · subst z; right; exact ⟨q, gup_at, upd_at⟩
    · rw [upd_ne z]
      rcases h.2 s hs hT with ⟨a, b⟩ | ⟨p, a, b⟩
      · left; refine ⟨a, fun p e => ?_⟩
        by_cases y : p = q
        · subst y; rw [gup_at] at e; cases e; exact z rfl
        · rw [gup_ne y] at e; exact b p e
      · right
        have y : ¬ p = q := fun y => by rw [y, h0] at a; cases a
        exact ⟨p, by rw [gup_ne y]; exact a, b⟩
theorem sit_mv {F : Nat → Nat → Prop} {B : Nat → Nat → Int32} {T T' X Y : Nat → Prop} {g : Nat → Option Nat} {q b t : Nat} (hg : Mt F T' X g) (h : rCH B T Y g q) (h0 : g q = none) (ht : t < 12) (hb : g b = some t) : rCH (cSit B t q) T Y (gup (gup g b none) q (some t)) b := by
  have hbq : ¬ b = q := fun z => by rw [z, h0] at hb; cases hb
  refine ⟨fun p hp hY hpb => ?_, fun s hs hT => ?_⟩
  · rw [cSit_22]
    by_cases z : p = q
    · subst z; rw [upd_at, gup_at]; exact ⟨ht, rfl⟩
    · rw [upd_ne z, gup_ne z, gup_ne hpb]; exact h.1 p hp hY z
  · unfold onC
    rw [cSit_21]
    by_cases z : s = t
    · subst z; right; exact ⟨q, gup_at, upd_at⟩
    · rw [upd_ne z]
      rcases h.2 s hs hT with ⟨a, c⟩ | ⟨p, a, c⟩
      · left; refine ⟨a, fun p e => ?_⟩
        by_cases y : p = q
        · subst y; rw [gup_at] at e; cases e; exact z rfl
        · rw [gup_ne y] at e
          by_cases y2 : p = b
          · subst y2; rw [gup_at] at e; cases e
          · rw [gup_ne y2] at e; exact c p e
      · right
        have y : ¬ p = q := fun y => by rw [y, h0] at a; cases a
        have y2 : ¬ p = b := fun y2 => by rw [y2, hb] at a; cases a; exact z rfl
        exact ⟨p, by rw [gup_ne y, gup_ne y2]; exact a, c⟩
def fY (A B : Nat → Nat → Int32) (T Y : Nat → Prop) : Prop := (∀ a, ¬ a = 21 → ¬ a = 22 → ¬ a = 23 → ¬ a = 24 → B a = A a) ∧ (∀ p, Y p → B 22 p = A 22 p) ∧ ∀ s, ¬ T s → B 21 s = A 21 s
theorem fY_r {A : Nat → Nat → Int32} {T Y : Nat → Prop} : fY A A T Y := ⟨fun _ _ _ _ _ => rfl, fun _ _ => rfl, fun _ _ => rfl⟩
theorem fY_t {A B C : Nat → Nat → Int32} {T Y : Nat → Prop} (h : fY A B T Y) (h' : fY B C T Y) : fY A C T Y := ⟨fun a h1 h2 h3 h4 => by rw [h'.1 a h1 h2 h3 h4, h.1 a h1 h2 h3 h4], fun p hp => by rw [h'.2.1 p hp, h.2.1 p hp], fun s hs => by rw [h'.2.2 s hs, h.2.2 s hs]⟩
theorem fY_sit {A B : Nat → Nat → Int32} {T Y : Nat → Prop} {s p : Nat} (h : fY A B T Y) (hT : T s) (hY : ¬ Y p) : fY A (cSit B s p) T Y := by
  refine ⟨fun a h1 h2 h3 h4 => ?_, fun q hq => ?_, fun t ht => ?_⟩
  · unfold cSit; rw [vb_ne h2, vb_ne h1]; exact h.1 a h1 h2 h3 h4
  · rw [cSit_22, upd_ne (fun z => hY (by rw [← z]; exact hq))]; exact h.2.1 q hq
  · rw [cSit_21, upd_ne (fun z => ht (by rw [z]; exact hT))]; exact h.2.2 t ht
theorem s20 {l : Launch} {E : jEnv} {A : Nat → Nat → Int32} {V : Nat → Int32} {O : Nat → Int64} {Q : jO → List jC → Prop} {s p : Nat} (hs : s < 12) (hp2 : p < 20) (hQ : Q (.inl none) (hp (cSit A s p) V O)) : GO l E 20 0 [some (.ref 19), some (.int (nI s)), some (.int (nI p))] [] (hp A V O) 0 0 Q := by
  refine R_aload z20_0 rfl ?_
  refine R_get z20_1 (k := 2) (f := 1) (by decide +kernel) rfl rfl ?_
  refine R_iload z20_4 rfl ?_
  refine R_iload z20_5 rfl ?_
  refine R_ist z20_6 (n := 12) (f := A 21) (h' := hp (va_up A 21 (upd (A 21) s (nI p))) V O) rfl (nin hs (by decide)) (by rw [ncl (by omega)]; rfl) ?_
  refine R_aload z20_7 rfl ?_
  refine R_get z20_8 (k := 2) (f := 2) (by decide +kernel) rfl rfl ?_
  refine R_iload z20_11 rfl ?_
  refine R_iload z20_12 rfl ?_
  refine R_ist z20_13 (n := 20) (f := (va_up A 21 (upd (A 21) s (nI p))) 22) (h' := hp (cSit A s p) V O) rfl (nin hp2 (by decide)) (by rw [ncl (by omega)]; rfl) ?_
  exact R_vret z20_14 ⟨Nat.zero_le _, Nat.zero_le _⟩ (hQ)
def cLv (B : Nat → Nat → Int32) (s p : Nat) : Nat → Nat → Int32 := va_up (va_up B 21 (upd (B 21) s (-1))) 22 (upd (B 22) p (-1))
theorem s21 {l : Launch} {E : jEnv} {A : Nat → Nat → Int32} {V : Nat → Int32} {O : Nat → Int64} {Q : jO → List jC → Prop} {s p : Nat} (hs : s < 12) (hp2 : p < 20) (hQ : Q (.inl none) (hp (cLv A s p) V O)) : GO l E 21 0 [some (.ref 19), some (.int (nI s)), some (.int (nI p))] [] (hp A V O) 0 0 Q := by
  refine R_iload z21_0 rfl ?_
  refine R_iconst z21_1 (v := (-1)) (by decide) ?_
  refine R_icmp z21_2 (tn := 24) rfl (fun q => absurd q (nm1 (by omega))) (fun (h2 : ¬ ((nI s) : Int32) = (-1)) => ?_)
  refine R_iload z21_5 rfl ?_
  refine R_iconst z21_6 (v := (-1)) (by decide) ?_
  refine R_icmp z21_7 (tn := 24) rfl (fun q => absurd q (nm1 (by omega))) (fun (h7 : ¬ ((nI p) : Int32) = (-1)) => ?_)
  refine R_aload z21_10 rfl ?_
  refine R_get z21_11 (k := 2) (f := 1) (by decide +kernel) rfl rfl ?_
  refine R_iload z21_14 rfl ?_
  refine R_iconst z21_15 (v := (-1)) (by decide) ?_
  refine R_ist z21_16 (n := 12) (f := A 21) (h' := hp (va_up A 21 (upd (A 21) s (-1))) V O) rfl (nin hs (by decide)) (by rw [ncl (by omega)]; rfl) ?_
  refine R_aload z21_17 rfl ?_
  refine R_get z21_18 (k := 2) (f := 2) (by decide +kernel) rfl rfl ?_
  refine R_iload z21_21 rfl ?_
  refine R_iconst z21_22 (v := (-1)) (by decide) ?_
  refine R_ist z21_23 (n := 20) (f := (va_up A 21 (upd (A 21) s (-1))) 22) (h' := hp (cLv A s p) V O) rfl (nin hp2 (by decide)) (by rw [ncl (by omega)]; rfl) ?_
  exact R_vret z21_24 ⟨Nat.zero_le _, Nat.zero_le _⟩ (hQ)
theorem s21n {l : Launch} {E : jEnv} {A : Nat → Nat → Int32} {V : Nat → Int32} {O : Nat → Int64} {Q : jO → List jC → Prop} {s p : Int32} (hn : s = -1 ∨ p = -1) (hQ : Q (.inl none) (hp A V O)) : GO l E 21 0 [some (.ref 19), some (.int s), some (.int p)] [] (hp A V O) 0 0 Q := by
  refine R_iload z21_0 rfl ?_
  refine R_iconst z21_1 (v := (-1)) (by decide) ?_
  refine R_icmp z21_2 (tn := 24) rfl (fun (h2 : (s : Int32) = (-1)) => ?_) (fun (h2 : ¬ (s : Int32) = (-1)) => ?_)
  · exact R_vret z21_24 ⟨Nat.zero_le _, Nat.zero_le _⟩ (hQ)
  · refine R_iload z21_5 rfl ?_
    refine R_iconst z21_6 (v := (-1)) (by decide) ?_
    refine R_icmp z21_7 (tn := 24) rfl (fun (h7 : (p : Int32) = (-1)) => ?_) (fun (h7 : ¬ (p : Int32) = (-1)) => ?_)
    · exact R_vret z21_24 ⟨Nat.zero_le _, Nat.zero_le _⟩ (hQ)
    · exact absurd hn (fun z => z.elim h2 h7)
theorem s24_lp {l : Launch} {E : jEnv} {A : Nat → Nat → Int32} {V : Nat → Int32} {O : Nat → Int64} {Q : jO → List jC → Prop} {F : Nat → Nat → Prop} {T Y S : Nat → Prop} {fr : Nat → Option Nat} {rk : Nat → Nat} {g0 : Nat → Option Nat} {x : Int32} (hC : CHs F Y g0 S fr rk) (hTe : ∀ s, S s → T s) (hT12 : ∀ s, T s → s < 12) (hF : ∀ p t, fr p = some t → A 24 p = nI t) (hQ : ∀ B g, fY A B T Y → rCY B T Y g → Mt F T Y g → sz g 20 = sz g0 20 + 1 → Q (.inl none) (hp B V O)) : ∀ (N q t : Nat) (g : Nat → Option Nat) (B : Nat → Nat → Int32) (k : Nat), rk q < N → HSs F T Y S fr rk g0 g q → fr q = some t → fY A B T Y → B 24 = A 24 → rCH B T Y g q → rk q + k ≤ 11 → GO l E 24 4 [some (.ref 19), some (.int x), some (.int (nI q)), some (.int (nI k)), none, none] [] (hp B V O) 0 0 Q := by
  intro N
  induction N with
  | zero => intro q t g B k h; exact absurd h (by omega)
  | succ N ih =>
    intro q t g B k hN hH hq hB h24 hR hk
    obtain ⟨c1, c2, c3, c4, c5⟩ := hC q t hq
    by_cases hte : S t
    · have ht : T t := hTe t hte
      obtain ⟨k1, k2⟩ := hss_end hC ht hH hq hte
      have o1 : B 21 t = -1 := (hR.2 t c2 ht).elim (fun y => y.1) (fun ⟨p, y, _⟩ => absurd y (hH.2.2.2.2.2 t hte p))
      have fin : Q (.inl none) (hp (cSit B t q) V O) := hQ _ _ (fY_sit hB ht c4) (sit_end hR hH.2.1 c2) k1 k2
      refine R_iload z24_4 rfl ?_
      refine R_bipush z24_5 (v := 12) (by decide) ?_
      refine R_icmp z24_7 (tn := 48) rfl (fun q => absurd q ((show ¬ (12 : Int32) ≤ nI k by rw [show (12 : Int32) = nI 12 by decide, nge (by omega) (by omega)]; omega))) (fun (h7 : ¬ (12 : Int32) ≤ (nI k)) => ?_)
      refine R_iload z24_10 rfl ?_
      refine R_iconst z24_11 (v := (-1)) (by decide) ?_
      refine R_icmp z24_12 (tn := 48) rfl (fun q => absurd q (nm1 (by omega))) (fun (h12 : ¬ ((nI q) : Int32) = (-1)) => ?_)
      refine R_aload z24_15 rfl ?_
      refine R_get z24_16 (k := 2) (f := 4) (by decide +kernel) rfl rfl ?_
      refine R_iload z24_19 rfl ?_
      refine R_ild z24_20 (n := 20) (f := B 24) (v := (nI t)) rfl (nin c1 (by decide)) (by rw [ncl (by omega)]; exact (congrFun h24 q).trans (hF q t hq)) ?_
      refine R_istore z24_21 (loc' := [some (.ref 19), some (.int x), some (.int (nI q)), some (.int (nI k)), some (.int (nI t)), none]) rfl rfl ?_
      refine R_aload z24_23 rfl ?_
      refine R_get z24_24 (k := 2) (f := 1) (by decide +kernel) rfl rfl ?_
      refine R_iload z24_27 rfl ?_
      refine R_ild z24_29 (n := 12) (f := B 21) (v := (-1)) rfl (nin c2 (by decide)) (by rw [ncl (by omega)]; exact o1) ?_
      refine R_istore z24_30 (loc' := [some (.ref 19), some (.int x), some (.int (nI q)), some (.int (nI k)), some (.int (nI t)), some (.int (-1))]) rfl rfl ?_
      refine R_aload z24_32 rfl ?_
      refine R_iload z24_33 rfl ?_
      refine R_iload z24_35 rfl ?_
      refine R_cv z24_36 (k := 20) (by decide +kernel) rfl rfl (by decide +kernel) (Nat.le_of_ble_eq_true (by rfl)) rfl ⟨rfl, trivial⟩ ?_
      refine s20 c2 c1 (jBk_ret rfl ⟨rfl, rfl⟩ ?_)
      refine R_iload z24_39 rfl ?_
      refine R_istore z24_41 (loc' := [some (.ref 19), some (.int x), some (.int (-1)), some (.int (nI k)), some (.int (nI t)), some (.int (-1))]) rfl rfl ?_
      refine R_iinc z24_42 (v := 1) (loc' := [some (.ref 19), some (.int x), some (.int (-1)), some (.int (nI (k + 1))), some (.int (nI t)), some (.int (-1))]) rfl rfl (by decide) (by rw [nI_1]; rfl) ?_
      refine R_goto z24_45 (tn := 4) rfl ?_
      refine R_iload z24_4 rfl ?_
      refine R_bipush z24_5 (v := 12) (by decide) ?_
      refine R_icmp z24_7 (tn := 48) rfl (fun _ => ?_) (fun _ => ?_)
      · exact R_vret z24_48 ⟨Nat.zero_le _, Nat.zero_le _⟩ fin
      · refine R_iload z24_10 rfl ?_
        refine R_iconst z24_11 (v := -1) (by decide) ?_
        refine R_icmp z24_12 (tn := 48) rfl (fun _ => ?_) (fun q => absurd rfl q)
        exact R_vret z24_48 ⟨Nat.zero_le _, Nat.zero_le _⟩ fin
    · obtain ⟨b, b1, b2, b3, b4, b5⟩ := hss_step hC hH hq hte
      have ht : T t := (hH.1.1 b t b1).2.1
      have o1 : B 21 t = nI b := (hR.2 t c2 ht).elim (fun y => absurd b1 (y.2 b)) (fun ⟨p, y, z⟩ => by rw [z, hH.1.2 p b t y b1])
      obtain ⟨t2, et2⟩ : ∃ t2, fr b = some t2 := by
        cases y : fr b with
        | none => exact absurd y b5.2.2.1
        | some t2 => exact ⟨t2, rfl⟩
      refine R_iload z24_4 rfl ?_
      refine R_bipush z24_5 (v := 12) (by decide) ?_
      refine R_icmp z24_7 (tn := 48) rfl (fun q => absurd q ((show ¬ (12 : Int32) ≤ nI k by rw [show (12 : Int32) = nI 12 by decide, nge (by omega) (by omega)]; omega))) (fun (h7 : ¬ (12 : Int32) ≤ (nI k)) => ?_)
      refine R_iload z24_10 rfl ?_
      refine R_iconst z24_11 (v := (-1)) (by decide) ?_
      refine R_icmp z24_12 (tn := 48) rfl (fun q => absurd q (nm1 (by omega))) (fun (h12 : ¬ ((nI q) : Int32) = (-1)) => ?_)
      refine R_aload z24_15 rfl ?_
      refine R_get z24_16 (k := 2) (f := 4) (by decide +kernel) rfl rfl ?_
      refine R_iload z24_19 rfl ?_
      refine R_ild z24_20 (n := 20) (f := B 24) (v := (nI t)) rfl (nin c1 (by decide)) (by rw [ncl (by omega)]; exact (congrFun h24 q).trans (hF q t hq)) ?_
      refine R_istore z24_21 (loc' := [some (.ref 19), some (.int x), some (.int (nI q)), some (.int (nI k)), some (.int (nI t)), none]) rfl rfl ?_
      refine R_aload z24_23 rfl ?_
      refine R_get z24_24 (k := 2) (f := 1) (by decide +kernel) rfl rfl ?_
      refine R_iload z24_27 rfl ?_
      refine R_ild z24_29 (n := 12) (f := B 21) (v := (nI b)) rfl (nin c2 (by decide)) (by rw [ncl (by omega)]; exact o1) ?_
      refine R_istore z24_30 (loc' := [some (.ref 19), some (.int x), some (.int (nI q)), some (.int (nI k)), some (.int (nI t)), some (.int (nI b))]) rfl rfl ?_
      refine R_aload z24_32 rfl ?_
      refine R_iload z24_33 rfl ?_
      refine R_iload z24_35 rfl ?_
      refine R_cv z24_36 (k := 20) (by decide +kernel) rfl rfl (by decide +kernel) (Nat.le_of_ble_eq_true (by rfl)) rfl ⟨rfl, trivial⟩ ?_
      refine s20 c2 c1 (jBk_ret rfl ⟨rfl, rfl⟩ ?_)
      refine R_iload z24_39 rfl ?_
      refine R_istore z24_41 (loc' := [some (.ref 19), some (.int x), some (.int (nI b)), some (.int (nI k)), some (.int (nI t)), some (.int (nI b))]) rfl rfl ?_
      refine R_iinc z24_42 (v := 1) (loc' := [some (.ref 19), some (.int x), some (.int (nI b)), some (.int (nI (k + 1))), some (.int (nI t)), some (.int (nI b))]) rfl rfl (by decide) (by rw [nI_1]; rfl) ?_
      refine R_goto z24_45 (tn := 4) rfl ?_
      exact GO_drop 4 (GO_drop 5 (ih b t2 _ _ (k + 1) (by omega) b5 et2 (fY_sit hB ht c4) h24 (sit_mv hH.1 hR hH.2.1 c2 b1) (by omega)))
theorem s24 {l : Launch} {E : jEnv} {A : Nat → Nat → Int32} {V : Nat → Int32} {O : Nat → Int64} {Q : jO → List jC → Prop} {q : Nat} {F : Nat → Nat → Prop} {T Y S : Nat → Prop} {fr : Nat → Option Nat} {rk : Nat → Nat} {g0 : Nat → Option Nat} (hC : CHs F Y g0 S fr rk) (hTe : ∀ s, S s → T s) (hT12 : ∀ s, T s → s < 12) (hF : ∀ p t, fr p = some t → A 24 p = nI t) (hQ : ∀ B g, fY A B T Y → rCY B T Y g → Mt F T Y g → sz g 20 = sz g0 20 + 1 → Q (.inl none) (hp B V O)) (hg : Mt F T Y g0) (hR : rCY A T Y g0) (hge : ∀ s, S s → ∀ p, ¬ g0 p = some s) (hq : ¬ fr q = none) (h0 : g0 q = none) (hrk : rk q ≤ 11) : GO l E 24 0 [some (.ref 19), some (.int (nI q)), none, none, none, none] [] (hp A V O) 0 0 Q := by
  obtain ⟨t, et⟩ : ∃ t, fr q = some t := by
    cases y : fr q with
    | none => exact absurd y hq
    | some t => exact ⟨t, rfl⟩
  refine R_iload z24_0 rfl ?_
  refine R_istore z24_1 (loc' := [some (.ref 19), some (.int (nI q)), some (.int (nI q)), none, none, none]) rfl rfl ?_
  refine R_iconst z24_2 (v := 0) (by decide) ?_
  refine R_istore z24_3 (loc' := [some (.ref 19), some (.int (nI q)), some (.int (nI q)), some (.int 0), none, none]) rfl rfl ?_
  exact s24_lp hC hTe hT12 hF hQ (rk q + 1) q t g0 A 0 (by omega) (hss_0 hg h0 hq hge) et fY_r rfl ⟨fun p hp hY _ => hR.1 p hp hY, hR.2⟩ (by omega)

theorem fd_F {A B : Nat → Nat → Int32} (h : fd A B) : cF B = cF A := by unfold cF; rw [h 20 (by decide) (by decide)]
theorem fY_F {A B : Nat → Nat → Int32} {T Y : Nat → Prop} (h : fY A B T Y) : cF B = cF A := by unfold cF; rw [h.1 20 (by decide) (by decide) (by decide) (by decide)]
theorem fd_t {A B C : Nat → Nat → Int32} (h : fd A B) (h' : fd B C) : fd A C := fun a h1 h2 => by rw [h' a h1 h2, h a h1 h2]
theorem fY_mono {A B : Nat → Nat → Int32} {T T' Y Y' : Nat → Prop} (h : fY A B T Y) (hT : ∀ s, T s → T' s) (hY : ∀ p, Y' p → Y p) : fY A B T' Y' := ⟨h.1, fun p hp => h.2.1 p (hY p hp), fun s hs => h.2.2 s (fun z => hs (hT s z))⟩
theorem cLv_21 {B : Nat → Nat → Int32} {s p : Nat} : cLv B s p 21 = upd (B 21) s (-1) := rfl
theorem cLv_22 {B : Nat → Nat → Int32} {s p : Nat} : cLv B s p 22 = upd (B 22) p (-1) := rfl
theorem fY_lv {A B : Nat → Nat → Int32} {T Y : Nat → Prop} {s p : Nat} (h : fY A B T Y) (hT : T s) (hY : ¬ Y p) : fY A (cLv B s p) T Y := by
  refine ⟨fun a h1 h2 h3 h4 => ?_, fun q hq => ?_, fun t ht => ?_⟩
  · unfold cLv; rw [vb_ne h2, vb_ne h1]; exact h.1 a h1 h2 h3 h4
  · rw [cLv_22, upd_ne (fun z => hY (by rw [← z]; exact hq))]; exact h.2.1 q hq
  · rw [cLv_21, upd_ne (fun z => ht (by rw [z]; exact hT))]; exact h.2.2 t ht
theorem lv_rep {F : Nat → Nat → Prop} {B : Nat → Nat → Int32} {T T' X Y : Nat → Prop} {g : Nat → Option Nat} {q t : Nat} (hg : Mt F T' X g) (h : rCY B T Y g) (hq : g q = some t) : rCY (cLv B t q) T Y (gup g q none) := by
  refine ⟨fun p hp hY => ?_, fun s hs hT => ?_⟩
  · rw [cLv_22]
    by_cases z : p = q
    · subst z; rw [upd_at, gup_at]; rfl
    · rw [upd_ne z, gup_ne z]; exact h.1 p hp hY
  · unfold onC
    rw [cLv_21]
    by_cases z : s = t
    · subst z; left
      refine ⟨upd_at, fun p e => ?_⟩
      by_cases y : p = q
      · subst y; rw [gup_at] at e; cases e
      · rw [gup_ne y] at e; exact y (hg.2 p q s e hq)
    · rw [upd_ne z]
      rcases h.2 s hs hT with ⟨a, b⟩ | ⟨p, a, b⟩
      · left; refine ⟨a, fun p e => ?_⟩
        by_cases y : p = q
        · subst y; rw [gup_at] at e; cases e
        · rw [gup_ne y] at e; exact b p e
      · right
        have y : ¬ p = q := fun y => by rw [y, hq] at a; cases a; exact z rfl
        exact ⟨p, by rw [gup_ne y]; exact a, b⟩
theorem sit_drop {B : Nat → Nat → Int32} {T T' Y Y' : Nat → Prop} {g : Nat → Option Nat} {s p : Nat} (h : rCY B T Y g) (hY : ∀ q, ¬ Y' q → ¬ q = p ∧ ¬ Y q) (hT : ∀ t, T' t → ¬ t = s ∧ T t) : rCY (cSit B s p) T' Y' g := by
  refine ⟨fun q hq hY2 => ?_, fun t ht hT2 => ?_⟩
  · rw [cSit_22, upd_ne (hY q hY2).1]; exact h.1 q hq (hY q hY2).2
  · unfold onC
    rw [cSit_21, upd_ne (hT t hT2).1]; exact h.2 t ht (hT t hT2).2
theorem sit_gen {B : Nat → Nat → Int32} {T T' Y Y' : Nat → Prop} {g : Nat → Option Nat} {q t : Nat} (h : rCY B T' Y' g) (h0 : g q = none) (ht : t < 12) (hY : ∀ p, ¬ p = q → ¬ Y p → ¬ Y' p) (hT : ∀ s, ¬ s = t → T s → T' s) : rCY (cSit B t q) T Y (gup g q (some t)) := by
  refine ⟨fun p hp hY2 => ?_, fun s hs hT2 => ?_⟩
  · rw [cSit_22]
    by_cases z : p = q
    · subst z; rw [upd_at, gup_at]; exact ⟨ht, rfl⟩
    · rw [upd_ne z, gup_ne z]; exact h.1 p hp (hY p z hY2)
  · unfold onC
    rw [cSit_21]
    by_cases z : s = t
    · subst z; right; exact ⟨q, gup_at, upd_at⟩
    · rw [upd_ne z]
      rcases h.2 s hs (hT s z hT2) with ⟨a, b⟩ | ⟨p, a, b⟩
      · left; refine ⟨a, fun p e => ?_⟩
        by_cases y : p = q
        · subst y; rw [gup_at] at e; cases e; exact z rfl
        · rw [gup_ne y] at e; exact b p e
      · right
        have y : ¬ p = q := fun y => by rw [y, h0] at a; cases a
        exact ⟨p, by rw [gup_ne y]; exact a, b⟩
theorem sT_2 {s n t : Nat} (h : sT (s + 1) n t) : ¬ t = s ∧ sT s n t := by
  have h1 := h.1
  have h2 := h.2
  exact ⟨by omega, by omega, h2⟩
theorem XU_2 {Y : Nat → Prop} {p q : Nat} (h : ¬ XU Y p q) : ¬ q = p ∧ ¬ Y q := ⟨fun z => h (Or.inr z), fun z => h (Or.inl z)⟩
theorem sT_3 {s n t : Nat} (h : sT s n t) (ht : ¬ t = s) : sT (s + 1) n t := by
  have h1 := h.1
  exact ⟨by omega, h.2⟩
theorem s19a {l : Launch} {E : jEnv} {A : Nat → Nat → Int32} {V : Nat → Int32} {O : Nat → Int64} {Q : jO → List jC → Prop} {s n p : Nat} {Y : Nat → Prop} {g : Nat → Option Nat} {st : Int32} (hV : V 5 = nI n) (hn : n ≤ 12) (hs : s < n) (hp2 : p < 20) (hYp : ¬ Y p) (hst : ∀ p, p < 20 → (jbit st (nI p) ↔ Y p)) (hg : Mt (cF A) (sT s n) Y g) (hR : rCY A (sT s n) Y g) (hQ1 : ∀ B g4, fY A B (sT s n) Y → B 21 s = nI p → rCY B (sT (s + 1) n) (XU Y p) g4 → Mt (cF A) (sT (s + 1) n) (XU Y p) g4 → sz g 20 ≤ sz g4 20 + 1 → Q (.inl (some (.int 1))) (hp B V O)) (hQ0 : ∀ B m, fY A B (sT s n) Y → rCY B (sT s n) Y g → m + 2 = sz g 20 → Lg (cF A) (sT (s + 1) n) (XU Y p) m → Q (.inl (some (.int 0))) (hp B V O)) (hq : g p = some s) (e5 : A 21 s = nI p) : GO l E 19 0 [some (.ref 19), some (.int (nI s)), some (.int (nI p)), some (.int st), none, none] [] (hp A V O) 0 0 Q := by
  refine R_aload z19_0 rfl ?_
  refine R_get z19_1 (k := 2) (f := 1) (by decide +kernel) rfl rfl ?_
  refine R_iload z19_4 rfl ?_
  refine R_ild z19_5 (n := 12) (f := A 21) (v := (nI p)) rfl (nin (by omega) (by decide)) (by rw [ncl (by omega)]; exact e5) ?_
  refine R_istore z19_6 (loc' := [some (.ref 19), some (.int (nI s)), some (.int (nI p)), some (.int st), some (.int (nI p)), none]) rfl rfl ?_
  refine R_aload z19_8 rfl ?_
  refine R_get z19_9 (k := 2) (f := 2) (by decide +kernel) rfl rfl ?_
  refine R_iload z19_12 rfl ?_
  refine R_ild z19_13 (n := 20) (f := A 22) (v := (A 22 ((nI p)).toNatClampNeg)) rfl (nin hp2 (by decide)) (rfl) ?_
  refine R_istore z19_14 (loc' := [some (.ref 19), some (.int (nI s)), some (.int (nI p)), some (.int st), some (.int (nI p)), some (.int (A 22 ((nI p)).toNatClampNeg))]) rfl rfl ?_
  refine R_iload z19_16 rfl ?_
  refine R_iload z19_18 rfl ?_
  refine R_icmp z19_19 (tn := 24) rfl (fun q => absurd q (fun z => z rfl)) (fun (h19 : ¬ (¬ ((nI p) : Int32) = (nI p))) => ?_)
  refine R_iconst z19_22 (v := 1) (by decide) ?_
  refine R_iret z19_23 (Or.inr (by decide)) ⟨Nat.zero_le _, Nat.zero_le _⟩ (hQ1 A (gup g p none) fY_r e5 ⟨fun q hq hY => by rw [gup_ne (XU_2 hY).1]; exact hR.1 q hq (XU_2 hY).2, fun t ht hT => ?_⟩ ?_ ?_)
  · rcases hR.2 t ht (sT_2 hT).2 with ⟨a, b⟩ | ⟨q, a, b⟩
    · left; refine ⟨a, fun q e => ?_⟩
      by_cases y : q = p
      · subst y; rw [gup_at] at e; cases e
      · rw [gup_ne y] at e; exact b q e
    · right
      have y : ¬ q = p := fun y => by rw [y, hq] at a; cases a; exact (sT_2 hT).1 rfl
      exact ⟨q, by rw [gup_ne y]; exact a, b⟩
  · exact Mt_del hg (fun q t e y => sT_3 (hg.1 q t e).2.1 (fun z => by subst z; exact y (hg.2 q p t e hq))) (fun q t e y z => z.elim (hg.1 q t e).2.2.1 y)
  · have := sz_del (g := g) (p := p) (by rw [hq]; simp) hp2
    omega
theorem s19b {l : Launch} {E : jEnv} {A : Nat → Nat → Int32} {V : Nat → Int32} {O : Nat → Int64} {Q : jO → List jC → Prop} {s n p : Nat} {Y : Nat → Prop} {g : Nat → Option Nat} {st : Int32} (hV : V 5 = nI n) (hn : n ≤ 12) (hs : s < n) (hp2 : p < 20) (hYp : ¬ Y p) (hst : ∀ p, p < 20 → (jbit st (nI p) ↔ Y p)) (hg : Mt (cF A) (sT s n) Y g) (hR : rCY A (sT s n) Y g) (hQ1 : ∀ B g4, fY A B (sT s n) Y → B 21 s = nI p → rCY B (sT (s + 1) n) (XU Y p) g4 → Mt (cF A) (sT (s + 1) n) (XU Y p) g4 → sz g 20 ≤ sz g4 20 + 1 → Q (.inl (some (.int 1))) (hp B V O)) (hQ0 : ∀ B m, fY A B (sT s n) Y → rCY B (sT s n) Y g → m + 2 = sz g 20 → Lg (cF A) (sT (s + 1) n) (XU Y p) m → Q (.inl (some (.int 0))) (hp B V O)) (e5 : A 21 s = -1) (hno : ∀ q, ¬ g q = some s) (e13 : A 22 p = -1) (hgp : g p = none) : GO l E 19 0 [some (.ref 19), some (.int (nI s)), some (.int (nI p)), some (.int st), none, none] [] (hp A V O) 0 0 Q := by
  refine R_aload z19_0 rfl ?_
  refine R_get z19_1 (k := 2) (f := 1) (by decide +kernel) rfl rfl ?_
  refine R_iload z19_4 rfl ?_
  refine R_ild z19_5 (n := 12) (f := A 21) (v := (-1)) rfl (nin (by omega) (by decide)) (by rw [ncl (by omega)]; exact e5) ?_
  refine R_istore z19_6 (loc' := [some (.ref 19), some (.int (nI s)), some (.int (nI p)), some (.int st), some (.int (-1)), none]) rfl rfl ?_
  refine R_aload z19_8 rfl ?_
  refine R_get z19_9 (k := 2) (f := 2) (by decide +kernel) rfl rfl ?_
  refine R_iload z19_12 rfl ?_
  refine R_ild z19_13 (n := 20) (f := A 22) (v := (-1)) rfl (nin hp2 (by decide)) (by rw [ncl (by omega)]; exact e13) ?_
  refine R_istore z19_14 (loc' := [some (.ref 19), some (.int (nI s)), some (.int (nI p)), some (.int st), some (.int (-1)), some (.int (-1))]) rfl rfl ?_
  refine R_iload z19_16 rfl ?_
  refine R_iload z19_18 rfl ?_
  refine R_icmp z19_19 (tn := 24) rfl (fun (h19 : ¬ ((-1) : Int32) = (nI p)) => ?_) (fun q => absurd (fun z => absurd z.symm (nm1 (by omega))) q)
  refine R_aload z19_24 rfl ?_
  refine R_iload z19_25 rfl ?_
  refine R_iload z19_26 rfl ?_
  refine R_cv z19_28 (k := 21) (by decide +kernel) rfl rfl (by decide +kernel) (Nat.le_of_ble_eq_true (by rfl)) rfl ⟨rfl, trivial⟩ ?_
  refine s21n (Or.inr rfl) (jBk_ret rfl ⟨rfl, rfl⟩ ?_)
  refine R_aload z19_31 rfl ?_
  refine R_iload z19_32 rfl ?_
  refine R_iload z19_34 rfl ?_
  refine R_cv z19_35 (k := 21) (by decide +kernel) rfl rfl (by decide +kernel) (Nat.le_of_ble_eq_true (by rfl)) rfl ⟨rfl, trivial⟩ ?_
  refine s21n (Or.inl rfl) (jBk_ret rfl ⟨rfl, rfl⟩ ?_)
  refine R_aload z19_38 rfl ?_
  refine R_iload z19_39 rfl ?_
  refine R_iload z19_40 rfl ?_
  refine R_cv z19_41 (k := 20) (by decide +kernel) rfl rfl (by decide +kernel) (Nat.le_of_ble_eq_true (by rfl)) rfl ⟨rfl, trivial⟩ ?_
  refine s20 (by omega) hp2 (jBk_ret rfl ⟨rfl, rfl⟩ ?_)
  refine R_iload z19_44 rfl ?_
  refine R_iconst z19_46 (v := (-1)) (by decide) ?_
  refine R_icmp z19_47 (tn := 56) rfl (fun _ => ?_) (fun q => absurd (show ((-1) : Int32) = (-1) by decide) q)
  refine R_iconst z19_56 (v := 1) (by decide) ?_
  exact R_iret z19_57 (Or.inr (by decide)) ⟨Nat.zero_le _, Nat.zero_le _⟩ (hQ1 (cSit A s p) g (fY_sit fY_r ⟨Nat.le_refl _, hs⟩ hYp) upd_at (sit_drop hR (fun q => XU_2) (fun t => sT_2)) ⟨fun q t e => ⟨(hg.1 q t e).1, sT_3 (hg.1 q t e).2.1 (fun z => hno q (by rw [← z]; exact e)), fun z => z.elim (hg.1 q t e).2.2.1 (fun z => by rw [z, hgp] at e; cases e), (hg.1 q t e).2.2.2⟩, hg.2⟩ (by omega))
theorem s19c {l : Launch} {E : jEnv} {A : Nat → Nat → Int32} {V : Nat → Int32} {O : Nat → Int64} {Q : jO → List jC → Prop} {s1 : Nat} {s n p : Nat} {Y : Nat → Prop} {g : Nat → Option Nat} {st : Int32} (hV : V 5 = nI n) (hn : n ≤ 12) (hs : s < n) (hp2 : p < 20) (hYp : ¬ Y p) (hst : ∀ p, p < 20 → (jbit st (nI p) ↔ Y p)) (hg : Mt (cF A) (sT s n) Y g) (hR : rCY A (sT s n) Y g) (hQ1 : ∀ B g4, fY A B (sT s n) Y → B 21 s = nI p → rCY B (sT (s + 1) n) (XU Y p) g4 → Mt (cF A) (sT (s + 1) n) (XU Y p) g4 → sz g 20 ≤ sz g4 20 + 1 → Q (.inl (some (.int 1))) (hp B V O)) (hQ0 : ∀ B m, fY A B (sT s n) Y → rCY B (sT s n) Y g → m + 2 = sz g 20 → Lg (cF A) (sT (s + 1) n) (XU Y p) m → Q (.inl (some (.int 0))) (hp B V O)) (e5 : A 21 s = -1) (hno : ∀ q, ¬ g q = some s) (e13 : A 22 p = nI s1) (hgp : g p = some s1) : GO l E 19 0 [some (.ref 19), some (.int (nI s)), some (.int (nI p)), some (.int st), none, none] [] (hp A V O) 0 0 Q := by
  have hs1 := (hg.1 p s1 hgp).2.1
  have hs12 : s1 < 12 := by have := hs1.2; omega
  refine R_aload z19_0 rfl ?_
  refine R_get z19_1 (k := 2) (f := 1) (by decide +kernel) rfl rfl ?_
  refine R_iload z19_4 rfl ?_
  refine R_ild z19_5 (n := 12) (f := A 21) (v := (-1)) rfl (nin (by omega) (by decide)) (by rw [ncl (by omega)]; exact e5) ?_
  refine R_istore z19_6 (loc' := [some (.ref 19), some (.int (nI s)), some (.int (nI p)), some (.int st), some (.int (-1)), none]) rfl rfl ?_
  refine R_aload z19_8 rfl ?_
  refine R_get z19_9 (k := 2) (f := 2) (by decide +kernel) rfl rfl ?_
  refine R_iload z19_12 rfl ?_
  refine R_ild z19_13 (n := 20) (f := A 22) (v := (nI s1)) rfl (nin hp2 (by decide)) (by rw [ncl (by omega)]; exact e13) ?_
  refine R_istore z19_14 (loc' := [some (.ref 19), some (.int (nI s)), some (.int (nI p)), some (.int st), some (.int (-1)), some (.int (nI s1))]) rfl rfl ?_
  refine R_iload z19_16 rfl ?_
  refine R_iload z19_18 rfl ?_
  refine R_icmp z19_19 (tn := 24) rfl (fun (h19 : ¬ ((-1) : Int32) = (nI p)) => ?_) (fun q => absurd (fun z => absurd z.symm (nm1 (by omega))) q)
  refine R_aload z19_24 rfl ?_
  refine R_iload z19_25 rfl ?_
  refine R_iload z19_26 rfl ?_
  refine R_cv z19_28 (k := 21) (by decide +kernel) rfl rfl (by decide +kernel) (Nat.le_of_ble_eq_true (by rfl)) rfl ⟨rfl, trivial⟩ ?_
  refine s21n (Or.inr rfl) (jBk_ret rfl ⟨rfl, rfl⟩ ?_)
  refine R_aload z19_31 rfl ?_
  refine R_iload z19_32 rfl ?_
  refine R_iload z19_34 rfl ?_
  refine R_cv z19_35 (k := 21) (by decide +kernel) rfl rfl (by decide +kernel) (Nat.le_of_ble_eq_true (by rfl)) rfl ⟨rfl, trivial⟩ ?_
  refine s21 hs12 hp2 (jBk_ret rfl ⟨rfl, rfl⟩ ?_)
  refine R_aload z19_38 rfl ?_
  refine R_iload z19_39 rfl ?_
  refine R_iload z19_40 rfl ?_
  refine R_cv z19_41 (k := 20) (by decide +kernel) rfl rfl (by decide +kernel) (Nat.le_of_ble_eq_true (by rfl)) rfl ⟨rfl, trivial⟩ ?_
  refine s20 (by omega) hp2 (jBk_ret rfl ⟨rfl, rfl⟩ ?_)
  refine R_iload z19_44 rfl ?_
  refine R_iconst z19_46 (v := (-1)) (by decide) ?_
  refine R_icmp z19_47 (tn := 56) rfl (fun _ => ?_) (fun q => absurd (show ((-1) : Int32) = (-1) by decide) q)
  refine R_iconst z19_56 (v := 1) (by decide) ?_
  exact R_iret z19_57 (Or.inr (by decide)) ⟨Nat.zero_le _, Nat.zero_le _⟩ (hQ1 (cSit (cLv A s1 p) s p) (gup g p none) (fY_sit (fY_lv fY_r hs1 hYp) ⟨Nat.le_refl _, hs⟩ hYp) upd_at (sit_drop (lv_rep hg hR hgp) (fun q => XU_2) (fun t => sT_2)) (Mt_del hg (fun q t e y => sT_3 (hg.1 q t e).2.1 (fun z => hno q (by rw [← z]; exact e))) (fun q t e y z => z.elim (hg.1 q t e).2.2.1 y)) (by have := sz_del (g := g) (p := p) (by rw [hgp]; simp) hp2; omega))
theorem s19d {l : Launch} {E : jEnv} {A : Nat → Nat → Int32} {V : Nat → Int32} {O : Nat → Int64} {Q : jO → List jC → Prop} {q0 : Nat} {s n p : Nat} {Y : Nat → Prop} {g : Nat → Option Nat} {st : Int32} (hV : V 5 = nI n) (hn : n ≤ 12) (hs : s < n) (hp2 : p < 20) (hYp : ¬ Y p) (hst : ∀ p, p < 20 → (jbit st (nI p) ↔ Y p)) (hg : Mt (cF A) (sT s n) Y g) (hR : rCY A (sT s n) Y g) (hQ1 : ∀ B g4, fY A B (sT s n) Y → B 21 s = nI p → rCY B (sT (s + 1) n) (XU Y p) g4 → Mt (cF A) (sT (s + 1) n) (XU Y p) g4 → sz g 20 ≤ sz g4 20 + 1 → Q (.inl (some (.int 1))) (hp B V O)) (hQ0 : ∀ B m, fY A B (sT s n) Y → rCY B (sT s n) Y g → m + 2 = sz g 20 → Lg (cF A) (sT (s + 1) n) (XU Y p) m → Q (.inl (some (.int 0))) (hp B V O)) (hq0 : g q0 = some s) (hne : ¬ q0 = p) (e5 : A 21 s = nI q0) (e13 : A 22 p = -1) (hgp : g p = none) : GO l E 19 0 [some (.ref 19), some (.int (nI s)), some (.int (nI p)), some (.int st), none, none] [] (hp A V O) 0 0 Q := by
  have hq20 := (hg.1 q0 s hq0).1
  have hYq := (hg.1 q0 s hq0).2.2.1
  refine R_aload z19_0 rfl ?_
  refine R_get z19_1 (k := 2) (f := 1) (by decide +kernel) rfl rfl ?_
  refine R_iload z19_4 rfl ?_
  refine R_ild z19_5 (n := 12) (f := A 21) (v := (nI q0)) rfl (nin (by omega) (by decide)) (by rw [ncl (by omega)]; exact e5) ?_
  refine R_istore z19_6 (loc' := [some (.ref 19), some (.int (nI s)), some (.int (nI p)), some (.int st), some (.int (nI q0)), none]) rfl rfl ?_
  refine R_aload z19_8 rfl ?_
  refine R_get z19_9 (k := 2) (f := 2) (by decide +kernel) rfl rfl ?_
  refine R_iload z19_12 rfl ?_
  refine R_ild z19_13 (n := 20) (f := A 22) (v := (-1)) rfl (nin hp2 (by decide)) (by rw [ncl (by omega)]; exact e13) ?_
  refine R_istore z19_14 (loc' := [some (.ref 19), some (.int (nI s)), some (.int (nI p)), some (.int st), some (.int (nI q0)), some (.int (-1))]) rfl rfl ?_
  refine R_iload z19_16 rfl ?_
  refine R_iload z19_18 rfl ?_
  refine R_icmp z19_19 (tn := 24) rfl (fun (h19 : ¬ ((nI q0) : Int32) = (nI p)) => ?_) (fun q => absurd (fun z => hne ((nI_eq (by omega) (by omega)).mp z)) q)
  refine R_aload z19_24 rfl ?_
  refine R_iload z19_25 rfl ?_
  refine R_iload z19_26 rfl ?_
  refine R_cv z19_28 (k := 21) (by decide +kernel) rfl rfl (by decide +kernel) (Nat.le_of_ble_eq_true (by rfl)) rfl ⟨rfl, trivial⟩ ?_
  refine s21 (by omega) hq20 (jBk_ret rfl ⟨rfl, rfl⟩ ?_)
  refine R_aload z19_31 rfl ?_
  refine R_iload z19_32 rfl ?_
  refine R_iload z19_34 rfl ?_
  refine R_cv z19_35 (k := 21) (by decide +kernel) rfl rfl (by decide +kernel) (Nat.le_of_ble_eq_true (by rfl)) rfl ⟨rfl, trivial⟩ ?_
  refine s21n (Or.inl rfl) (jBk_ret rfl ⟨rfl, rfl⟩ ?_)
  refine R_aload z19_38 rfl ?_
  refine R_iload z19_39 rfl ?_
  refine R_iload z19_40 rfl ?_
  refine R_cv z19_41 (k := 20) (by decide +kernel) rfl rfl (by decide +kernel) (Nat.le_of_ble_eq_true (by rfl)) rfl ⟨rfl, trivial⟩ ?_
  refine s20 (by omega) hp2 (jBk_ret rfl ⟨rfl, rfl⟩ ?_)
  refine R_iload z19_44 rfl ?_
  refine R_iconst z19_46 (v := (-1)) (by decide) ?_
  refine R_icmp z19_47 (tn := 56) rfl (fun q => absurd q (nm1 (by omega))) (fun (h47 : ¬ ((nI q0) : Int32) = (-1)) => ?_)
  refine R_iload z19_50 rfl ?_
  refine R_iconst z19_52 (v := (-1)) (by decide) ?_
  refine R_icmp z19_53 (tn := 58) rfl (fun q => absurd (show ¬ ((-1) : Int32) = (-1) from q) (by decide)) (fun _ => ?_)
  refine R_iconst z19_56 (v := 1) (by decide) ?_
  exact R_iret z19_57 (Or.inr (by decide)) ⟨Nat.zero_le _, Nat.zero_le _⟩ (hQ1 (cSit (cLv A s q0) s p) (gup g q0 none) (fY_sit (fY_lv fY_r ⟨Nat.le_refl _, hs⟩ hYq) ⟨Nat.le_refl _, hs⟩ hYp) upd_at (sit_drop (lv_rep hg hR hq0) (fun q => XU_2) (fun t => sT_2)) (Mt_del hg (fun q t e y => sT_3 (hg.1 q t e).2.1 (fun z => by subst z; exact y (hg.2 q q0 t e hq0))) (fun q t e y z => z.elim (hg.1 q t e).2.2.1 (fun z => by rw [z, hgp] at e; cases e))) (by have := sz_del (g := g) (p := q0) (by rw [hq0]; simp) hq20; omega))
theorem s19e {l : Launch} {E : jEnv} {A : Nat → Nat → Int32} {V : Nat → Int32} {O : Nat → Int64} {Q : jO → List jC → Prop} {q0 s1 : Nat} {s n p : Nat} {Y : Nat → Prop} {g : Nat → Option Nat} {st : Int32} (hV : V 5 = nI n) (hn : n ≤ 12) (hs : s < n) (hp2 : p < 20) (hYp : ¬ Y p) (hst : ∀ p, p < 20 → (jbit st (nI p) ↔ Y p)) (hg : Mt (cF A) (sT s n) Y g) (hR : rCY A (sT s n) Y g) (hQ1 : ∀ B g4, fY A B (sT s n) Y → B 21 s = nI p → rCY B (sT (s + 1) n) (XU Y p) g4 → Mt (cF A) (sT (s + 1) n) (XU Y p) g4 → sz g 20 ≤ sz g4 20 + 1 → Q (.inl (some (.int 1))) (hp B V O)) (hQ0 : ∀ B m, fY A B (sT s n) Y → rCY B (sT s n) Y g → m + 2 = sz g 20 → Lg (cF A) (sT (s + 1) n) (XU Y p) m → Q (.inl (some (.int 0))) (hp B V O)) (hq0 : g q0 = some s) (hne : ¬ q0 = p) (e5 : A 21 s = nI q0) (e13 : A 22 p = nI s1) (hgp : g p = some s1) : GO l E 19 0 [some (.ref 19), some (.int (nI s)), some (.int (nI p)), some (.int st), none, none] [] (hp A V O) 0 0 Q := by
  have hq20 := (hg.1 q0 s hq0).1
  have hYq := (hg.1 q0 s hq0).2.2.1
  have hs1 := (hg.1 p s1 hgp).2.1
  have hs12 : s1 < 12 := by have := hs1.2; omega
  have hs1s : ¬ s1 = s := fun z => hne (hg.2 q0 p s hq0 (by rw [← z]; exact hgp))
  have hgp2 : gup g q0 none p = some s1 := by rw [gup_ne (fun z => hne z.symm)]; exact hgp
  have hm1 : Mt (cF A) (sT (s + 1) n) Y (gup g q0 none) := Mt_del hg (fun q t e y => sT_3 (hg.1 q t e).2.1 (fun z => by subst z; exact y (hg.2 q q0 t e hq0))) (fun q t e _ => (hg.1 q t e).2.2.1)
  have hm3 : Mt (cF A) (sT (s + 1) n) (XU Y p) (gup (gup g q0 none) p none) := Mt_del hm1 (fun q t e _ => (hm1.1 q t e).2.1) (fun q t e y z => z.elim (hm1.1 q t e).2.2.1 y)
  have hr3 : rCY (cSit (cLv (cLv A s q0) s1 p) s p) (sT (s + 1) n) (XU Y p) (gup (gup g q0 none) p none) := sit_drop (lv_rep hm1 (lv_rep hg hR hq0) hgp2) (fun q => XU_2) (fun t => sT_2)
  have hf5 : fY A (cSit (cLv (cLv A s q0) s1 p) s p) (sT s n) Y := fY_sit (fY_lv (fY_lv fY_r ⟨Nat.le_refl _, hs⟩ hYq) hs1 hYp) ⟨Nat.le_refl _, hs⟩ hYp
  have hz1 := sz_del (g := g) (p := q0) (by rw [hq0]; simp) hq20
  have hz2 := sz_del (g := gup g q0 none) (p := p) (by rw [hgp2]; simp) hp2
  have hst2 : ∀ q, q < 20 → (jbit (st ||| (1 : Int32) <<< (nI p &&& 31)) (nI q) ↔ XU Y p q) := fun q hq => by
    rw [jbit_or (by omega), jbit_one (by omega) (by omega), hst q hq]
    exact ⟨fun z => z.imp id Eq.symm, fun z => z.imp id Eq.symm⟩
  have hback : gup (gup (gup (gup g q0 none) p none) q0 (some s)) p (some s1) = g := by
    funext q
    by_cases y : q = p
    · subst y; rw [gup_at, hgp]
    · rw [gup_ne y]
      by_cases y2 : q = q0
      · subst y2; rw [gup_at, hq0]
      · rw [gup_ne y2, gup_ne y, gup_ne y2]
  refine R_aload z19_0 rfl ?_
  refine R_get z19_1 (k := 2) (f := 1) (by decide +kernel) rfl rfl ?_
  refine R_iload z19_4 rfl ?_
  refine R_ild z19_5 (n := 12) (f := A 21) (v := (nI q0)) rfl (nin (by omega) (by decide)) (by rw [ncl (by omega)]; exact e5) ?_
  refine R_istore z19_6 (loc' := [some (.ref 19), some (.int (nI s)), some (.int (nI p)), some (.int st), some (.int (nI q0)), none]) rfl rfl ?_
  refine R_aload z19_8 rfl ?_
  refine R_get z19_9 (k := 2) (f := 2) (by decide +kernel) rfl rfl ?_
  refine R_iload z19_12 rfl ?_
  refine R_ild z19_13 (n := 20) (f := A 22) (v := (nI s1)) rfl (nin hp2 (by decide)) (by rw [ncl (by omega)]; exact e13) ?_
  refine R_istore z19_14 (loc' := [some (.ref 19), some (.int (nI s)), some (.int (nI p)), some (.int st), some (.int (nI q0)), some (.int (nI s1))]) rfl rfl ?_
  refine R_iload z19_16 rfl ?_
  refine R_iload z19_18 rfl ?_
  refine R_icmp z19_19 (tn := 24) rfl (fun (h19 : ¬ ((nI q0) : Int32) = (nI p)) => ?_) (fun q => absurd (fun z => hne ((nI_eq (by omega) (by omega)).mp z)) q)
  refine R_aload z19_24 rfl ?_
  refine R_iload z19_25 rfl ?_
  refine R_iload z19_26 rfl ?_
  refine R_cv z19_28 (k := 21) (by decide +kernel) rfl rfl (by decide +kernel) (Nat.le_of_ble_eq_true (by rfl)) rfl ⟨rfl, trivial⟩ ?_
  refine s21 (by omega) hq20 (jBk_ret rfl ⟨rfl, rfl⟩ ?_)
  refine R_aload z19_31 rfl ?_
  refine R_iload z19_32 rfl ?_
  refine R_iload z19_34 rfl ?_
  refine R_cv z19_35 (k := 21) (by decide +kernel) rfl rfl (by decide +kernel) (Nat.le_of_ble_eq_true (by rfl)) rfl ⟨rfl, trivial⟩ ?_
  refine s21 hs12 hp2 (jBk_ret rfl ⟨rfl, rfl⟩ ?_)
  refine R_aload z19_38 rfl ?_
  refine R_iload z19_39 rfl ?_
  refine R_iload z19_40 rfl ?_
  refine R_cv z19_41 (k := 20) (by decide +kernel) rfl rfl (by decide +kernel) (Nat.le_of_ble_eq_true (by rfl)) rfl ⟨rfl, trivial⟩ ?_
  refine s20 (by omega) hp2 (jBk_ret rfl ⟨rfl, rfl⟩ ?_)
  refine R_iload z19_44 rfl ?_
  refine R_iconst z19_46 (v := (-1)) (by decide) ?_
  refine R_icmp z19_47 (tn := 56) rfl (fun q => absurd q (nm1 (by omega))) (fun (h47 : ¬ ((nI q0) : Int32) = (-1)) => ?_)
  refine R_iload z19_50 rfl ?_
  refine R_iconst z19_52 (v := (-1)) (by decide) ?_
  refine R_icmp z19_53 (tn := 58) rfl (fun (h53 : ¬ ((nI s1) : Int32) = (-1)) => ?_) (fun q => absurd (nm1 (by omega)) q)
  refine R_aload z19_58 rfl ?_
  refine R_iload z19_59 rfl ?_
  refine R_iconst z19_60 (v := 1) (by decide) ?_
  refine R_iadd z19_61 ?_
  refine R_top (y := nI (s + 1)) (nI_1 _) ?_
  refine R_iload z19_62 rfl ?_
  refine R_iconst z19_63 (v := 1) (by decide) ?_
  refine R_iload z19_64 rfl ?_
  refine R_ishl z19_65 ?_
  refine R_ior z19_66 ?_
  refine R_cv z19_67 (k := 22) (by decide +kernel) rfl rfl (by decide +kernel) (Nat.le_of_ble_eq_true (by rfl)) rfl ⟨rfl, trivial⟩ ?_
  refine s22 (A := (cSit (cLv (cLv A s q0) s1 p) s p)) (f := s + 1) (n := n) (Y := XU Y p) (g := (gup (gup g q0 none) p none)) hV hn hs hst2 hm3 hr3 (fun B6 g4 w1 w2 w3 w4 => jBk_ret rfl ⟨rfl, rfl⟩ ?_) (fun B6 w1 w2 => jBk_ret rfl ⟨rfl, rfl⟩ ?_)
  · refine R_if z19_70 (tn := 75) rfl (fun q => absurd (show (1 : Int32) = 0 from q) (by decide)) (fun _ => ?_)
    refine R_iconst z19_73 (v := 1) (by decide) ?_
    exact R_iret z19_74 (Or.inr (by decide)) ⟨Nat.zero_le _, Nat.zero_le _⟩ (hQ1 B6 g4 (fY_t hf5 (fY_mono w1 (fun t y => (sT_2 y).2) (fun q y => Or.inl y))) ((w1.2.2 s (fun y => (sT_2 y).1 rfl)).trans upd_at) w2 w3 (by omega))
  · refine R_if z19_70 (tn := 75) rfl (fun _ => ?_) (fun q => absurd (show (0 : Int32) = 0 by decide) q)
    refine R_aload z19_75 rfl ?_
    refine R_iload z19_76 rfl ?_
    refine R_iload z19_77 rfl ?_
    refine R_cv z19_79 (k := 20) (by decide +kernel) rfl rfl (by decide +kernel) (Nat.le_of_ble_eq_true (by rfl)) rfl ⟨rfl, trivial⟩ ?_
    refine s20 (by omega) hq20 (jBk_ret rfl ⟨rfl, rfl⟩ ?_)
    refine R_aload z19_82 rfl ?_
    refine R_iload z19_83 rfl ?_
    refine R_iload z19_85 rfl ?_
    refine R_cv z19_86 (k := 20) (by decide +kernel) rfl rfl (by decide +kernel) (Nat.le_of_ble_eq_true (by rfl)) rfl ⟨rfl, trivial⟩ ?_
    refine s20 hs12 hp2 (jBk_ret rfl ⟨rfl, rfl⟩ ?_)
    refine R_iconst z19_89 (v := 0) (by decide) ?_
    exact R_iret z19_90 (Or.inr (by decide)) ⟨Nat.zero_le _, Nat.zero_le _⟩ (hQ0 (cSit (cSit B6 s q0) s1 p) (sz (gup (gup g q0 none) p none) 20) (fY_sit (fY_sit (fY_t hf5 (fd_fY w1)) ⟨Nat.le_refl _, hs⟩ hYq) hs1 hYp) (by have G := sit_gen (T := sT s n) (Y := Y) (q := p) (t := s1) (sit_gen (T := sT s n) (Y := XU Y p) (q := q0) (t := s) (rCY_fd hr3 w1) (by rw [gup_ne hne]; exact gup_at) (by omega) (fun _ _ y => y) (fun t y1 y2 => sT_3 y2 y1)) (by rw [gup_ne (fun z => hne z.symm)]; exact gup_at) hs12 (fun q y1 y2 y3 => y3.elim y2 y1) (fun _ _ y => y); rw [hback] at G; exact G) (by omega) w2)
theorem s19 {l : Launch} {E : jEnv} {A : Nat → Nat → Int32} {V : Nat → Int32} {O : Nat → Int64} {Q : jO → List jC → Prop} {s n p : Nat} {Y : Nat → Prop} {g : Nat → Option Nat} {st : Int32} (hV : V 5 = nI n) (hn : n ≤ 12) (hs : s < n) (hp2 : p < 20) (hYp : ¬ Y p) (hst : ∀ p, p < 20 → (jbit st (nI p) ↔ Y p)) (hg : Mt (cF A) (sT s n) Y g) (hR : rCY A (sT s n) Y g) (hQ1 : ∀ B g4, fY A B (sT s n) Y → B 21 s = nI p → rCY B (sT (s + 1) n) (XU Y p) g4 → Mt (cF A) (sT (s + 1) n) (XU Y p) g4 → sz g 20 ≤ sz g4 20 + 1 → Q (.inl (some (.int 1))) (hp B V O)) (hQ0 : ∀ B m, fY A B (sT s n) Y → rCY B (sT s n) Y g → m + 2 = sz g 20 → Lg (cF A) (sT (s + 1) n) (XU Y p) m → Q (.inl (some (.int 0))) (hp B V O)) : GO l E 19 0 [some (.ref 19), some (.int (nI s)), some (.int (nI p)), some (.int st), none, none] [] (hp A V O) 0 0 Q := by
  have r1 := hR.1 p hp2 hYp
  rcases hR.2 s (by omega) ⟨Nat.le_refl _, hs⟩ with ⟨e5, hno⟩ | ⟨q0, hq0, e5⟩
  · cases y : g p with
    | none => rw [y] at r1; exact s19b hV hn hs hp2 hYp hst hg hR hQ1 hQ0 e5 hno r1 y
    | some s1 => rw [y] at r1; exact s19c hV hn hs hp2 hYp hst hg hR hQ1 hQ0 e5 hno r1.2 y
  · by_cases hne : q0 = p
    · subst hne; exact s19a hV hn hs hp2 hYp hst hg hR hQ1 hQ0 hq0 e5
    · cases y : g p with
      | none => rw [y] at r1; exact s19d hV hn hs hp2 hYp hst hg hR hQ1 hQ0 hq0 hne e5 r1 y
      | some s1 => rw [y] at r1; exact s19e hV hn hs hp2 hYp hst hg hR hQ1 hQ0 hq0 hne e5 r1.2 y

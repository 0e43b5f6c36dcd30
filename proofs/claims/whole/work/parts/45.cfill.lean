theorem OK_of {F : Nat → Nat → Prop} {n s p : Nat} {Y : Nat → Prop} {g g4 : Nat → Option Nat} (hs : s < n) (hp : p < 20) (hF : F s p) (hY : ¬ Y p) (hL : Lg F (sT s n) Y (sz g 20)) (h4 : Mt F (sT (s + 1) n) (XU Y p) g4) (hz : sz g 20 ≤ sz g4 20 + 1) : OKp F n Y s (sz g 20) p ∧ sz g4 20 + 1 = sz g 20 ∧ Lg F (sT (s + 1) n) (XU Y p) (sz g4 20) := by
  have add : ∀ h, Mt F (sT (s + 1) n) (XU Y p) h → sz h 20 + 1 ≤ sz g 20 := by
    intro h hh
    have hn : h p = none := by
      cases y : h p with
      | none => rfl
      | some t => exact absurd (Or.inr rfl) (hh.1 p t y).2.2.1
    rw [← sz_add (s := s) hn 20 hp]
    refine hL _ ?_
    have h1 : Mt F (sT (s + 1) n) Y h := ⟨fun q t e => ⟨(hh.1 q t e).1, (hh.1 q t e).2.1, fun z => (hh.1 q t e).2.2.1 (Or.inl z), (hh.1 q t e).2.2.2⟩, hh.2⟩
    exact Mt_T (Mt_add h1 hp hY hF (fun q e => (sT_2 (hh.1 q s e).2.1).1 rfl)) (fun t y => y.elim (fun y => (sT_2 y).2) (fun y => by rw [y]; exact ⟨Nat.le_refl _, hs⟩))
  have e1 := add g4 h4
  have e2 : Lg F (sT (s + 1) n) (XU Y p) (sz g4 20) := fun h hh => by have := add h hh; omega
  exact ⟨⟨hp, hF, hY, sz g4 20, by omega, ⟨g4, h4, rfl⟩, e2⟩, by omega, e2⟩
theorem OK_not {F : Nat → Nat → Prop} {n s p m k : Nat} {Y : Nat → Prop} (hk : m + 2 = k) (hL : Lg F (sT (s + 1) n) (XU Y p) m) : ¬ OKp F n Y s k p := by
  rintro ⟨_, _, _, m', h1, ⟨g, g1, g2⟩, _⟩
  have := hL g g1
  omega
theorem s18_lp {l : Launch} {E : jEnv} {A : Nat → Nat → Int32} {V : Nat → Int32} {O : Nat → Int64} {Q : jO → List jC → Prop} {s n : Nat} {Y : Nat → Prop} {g : Nat → Option Nat} {st : Int32} (hV : V 5 = nI n) (hn : n ≤ 12) (hs : s < n) (hst : ∀ p, p < 20 → (jbit st (nI p) ↔ Y p)) (hg : Mt (cF A) (sT s n) Y g) (hL : Lg (cF A) (sT s n) Y (sz g 20)) (hQ1 : ∀ B p g4, OKp (cF A) n Y s (sz g 20) p → (∀ q, q < p → ¬ OKp (cF A) n Y s (sz g 20) q) → fY A B (sT s n) Y → B 21 s = nI p → rCY B (sT (s + 1) n) (XU Y p) g4 → Mt (cF A) (sT (s + 1) n) (XU Y p) g4 → sz g4 20 + 1 = sz g 20 → Lg (cF A) (sT (s + 1) n) (XU Y p) (sz g4 20) → Q (.inl (some (.int ((1 : Int32) <<< (nI p &&& 31))))) (hp B V O)) (hQ0 : ∀ B, (∀ q, ¬ OKp (cF A) n Y s (sz g 20) q) → fY A B (sT s n) Y → rCY B (sT s n) Y g → Q (.inl (some (.int 0))) (hp B V O)) : ∀ (d k : Nat) (B : Nat → Nat → Int32), k + d = 20 → fY A B (sT s n) Y → rCY B (sT s n) Y g → (∀ q, q < k → ¬ OKp (cF A) n Y s (sz g 20) q) → GO l E 18 14 [some (.ref 19), some (.int (nI s)), some (.int st), some (.int (A 20 s &&& (st ^^^ (-1)))), some (.int (nI k))] [] (hp B V O) 0 0 Q := by
  intro d
  induction d with
  | zero =>
    intro k B hk hB hR h1
    refine R_iload z18_14 rfl ?_
    refine R_bipush z18_16 (v := 20) (by decide) ?_
    refine R_icmp z18_18 (tn := 52) rfl (fun (h18 : (20 : Int32) ≤ (nI k)) => ?_) (fun q => absurd ((show (20 : Int32) ≤ nI k by rw [show (20 : Int32) = nI 20 by decide, nge (by omega) (by omega)]; omega)) q)
    refine R_iconst z18_52 (v := 0) (by decide) ?_
    exact R_iret z18_53 (Or.inl (by decide +kernel)) ⟨Nat.zero_le _, Nat.zero_le _⟩ (hQ0 B (fun q y => h1 q (by have := y.1; omega) y) hB hR)
  | succ d ih =>
    intro k B hk hB hR h1
    refine R_iload z18_14 rfl ?_
    refine R_bipush z18_16 (v := 20) (by decide) ?_
    refine R_icmp z18_18 (tn := 52) rfl (fun q => absurd q ((show ¬ (20 : Int32) ≤ nI k by rw [show (20 : Int32) = nI 20 by decide, nge (by omega) (by omega)]; omega))) (fun (h18 : ¬ (20 : Int32) ≤ (nI k)) => ?_)
    refine R_iload z18_21 rfl ?_
    refine R_iload z18_22 rfl ?_
    refine R_cs z18_24 (k := 49) (kind := 4) (by decide +kernel) (by decide) rfl rfl (by decide +kernel) (Nat.le_of_ble_eq_true (by rfl)) rfl ?_
    refine s49 (fun g9 => jBk_ret rfl ⟨rfl, rfl⟩ ?_) (fun g9 => jBk_ret rfl ⟨rfl, rfl⟩ ?_)
    · refine R_if z18_27 (tn := 46) rfl (fun q => absurd (show (1 : Int32) = 0 from q) (by decide)) (fun _ => ?_)
      have hF : cF A s k := ((jbit_and (by omega)).mp g9).1
      have hYk : ¬ Y k := fun y => (jbit_not (by omega)).mp ((jbit_and (by omega)).mp g9).2 ((hst k (by omega)).mpr y)
      refine R_aload z18_30 rfl ?_
      refine R_iload z18_31 rfl ?_
      refine R_iload z18_32 rfl ?_
      refine R_iload z18_34 rfl ?_
      refine R_cv z18_35 (k := 19) (by decide +kernel) rfl rfl (by decide +kernel) (Nat.le_of_ble_eq_true (by rfl)) rfl ⟨rfl, trivial⟩ ?_
      refine s19 (A := B) (Y := Y) (g := g) hV hn hs (by omega) hYk hst (by rw [fY_F hB]; exact hg) hR (fun B2 g4 w1 w2 w3 w4 w5 => jBk_ret rfl ⟨rfl, rfl⟩ ?_) (fun B2 m w1 w2 w3 w4 => jBk_ret rfl ⟨rfl, rfl⟩ ?_)
      · refine R_if z18_38 (tn := 46) rfl (fun q => absurd (show (1 : Int32) = 0 from q) (by decide)) (fun _ => ?_)
        rw [fY_F hB] at w4
        obtain ⟨k1, k2, k3⟩ := OK_of hs (by omega) hF hYk hL w4 w5
        refine R_iconst z18_41 (v := 1) (by decide) ?_
        refine R_iload z18_42 rfl ?_
        refine R_ishl z18_44 ?_
        exact R_iret z18_45 (Or.inl (by decide +kernel)) ⟨Nat.zero_le _, Nat.zero_le _⟩ (hQ1 B2 k g4 k1 (fun q hq => h1 q hq) (fY_t hB w1) w2 w3 w4 k2 k3)
      · refine R_if z18_38 (tn := 46) rfl (fun _ => ?_) (fun q => absurd (show (0 : Int32) = 0 by decide) q)
        refine R_iinc z18_46 (v := 1) (loc' := [some (.ref 19), some (.int (nI s)), some (.int st), some (.int (A 20 s &&& (st ^^^ (-1)))), some (.int (nI (k + 1)))]) rfl rfl (by decide) (by rw [nI_1]; rfl) ?_
        refine R_goto z18_49 (tn := 14) rfl ?_
        rw [fY_F hB] at w4
        exact ih (k + 1) B2 (by omega) (fY_t hB w1) w2 (fun q hq => by
          by_cases z : q = k
          · subst z; exact OK_not w3 w4
          · exact h1 q (by omega))
    · refine R_if z18_27 (tn := 46) rfl (fun _ => ?_) (fun q => absurd (show (0 : Int32) = 0 by decide) q)
      refine R_iinc z18_46 (v := 1) (loc' := [some (.ref 19), some (.int (nI s)), some (.int st), some (.int (A 20 s &&& (st ^^^ (-1)))), some (.int (nI (k + 1)))]) rfl rfl (by decide) (by rw [nI_1]; rfl) ?_
      refine R_goto z18_49 (tn := 14) rfl ?_
      exact ih (k + 1) B (by omega) hB hR (fun q hq => by
        by_cases z : q = k
        · subst z; exact fun y => g9 ((jbit_and (by omega)).mpr ⟨y.2.1, (jbit_not (by omega)).mpr (fun y4 => y.2.2.1 ((hst q (by omega)).mp y4))⟩)
        · exact h1 q (by omega))
theorem s18 {l : Launch} {E : jEnv} {A : Nat → Nat → Int32} {V : Nat → Int32} {O : Nat → Int64} {Q : jO → List jC → Prop} {s n : Nat} {Y : Nat → Prop} {g : Nat → Option Nat} {st : Int32} (hV : V 5 = nI n) (hn : n ≤ 12) (hs : s < n) (hst : ∀ p, p < 20 → (jbit st (nI p) ↔ Y p)) (hg : Mt (cF A) (sT s n) Y g) (hL : Lg (cF A) (sT s n) Y (sz g 20)) (hQ1 : ∀ B p g4, OKp (cF A) n Y s (sz g 20) p → (∀ q, q < p → ¬ OKp (cF A) n Y s (sz g 20) q) → fY A B (sT s n) Y → B 21 s = nI p → rCY B (sT (s + 1) n) (XU Y p) g4 → Mt (cF A) (sT (s + 1) n) (XU Y p) g4 → sz g4 20 + 1 = sz g 20 → Lg (cF A) (sT (s + 1) n) (XU Y p) (sz g4 20) → Q (.inl (some (.int ((1 : Int32) <<< (nI p &&& 31))))) (hp B V O)) (hQ0 : ∀ B, (∀ q, ¬ OKp (cF A) n Y s (sz g 20) q) → fY A B (sT s n) Y → rCY B (sT s n) Y g → Q (.inl (some (.int 0))) (hp B V O)) (hR : rCY A (sT s n) Y g) : GO l E 18 0 [some (.ref 19), some (.int (nI s)), some (.int st), none, none] [] (hp A V O) 0 0 Q := by
  refine R_aload z18_0 rfl ?_
  refine R_get z18_1 (k := 2) (f := 0) (by decide +kernel) rfl rfl ?_
  refine R_iload z18_4 rfl ?_
  refine R_ild z18_5 (n := 12) (f := A 20) (v := (A 20 s)) rfl (nin (by omega) (by decide)) (by rw [ncl (by omega)]) ?_
  refine R_iload z18_6 rfl ?_
  refine R_iconst z18_7 (v := (-1)) (by decide) ?_
  refine R_ixor z18_8 ?_
  refine R_iand z18_9 ?_
  refine R_istore z18_10 (loc' := [some (.ref 19), some (.int (nI s)), some (.int st), some (.int ((A 20 s) &&& (st ^^^ (-1)))), none]) rfl rfl ?_
  refine R_iconst z18_11 (v := 0) (by decide) ?_
  refine R_istore z18_12 (loc' := [some (.ref 19), some (.int (nI s)), some (.int st), some (.int ((A 20 s) &&& (st ^^^ (-1)))), some (.int 0)]) rfl rfl ?_
  exact s18_lp hV hn hs hst hg hL hQ1 hQ0 20 0 A (by omega) fY_r hR (fun _ h => absurd h (by omega))
def fZ (A B : Nat → Nat → Int32) : Prop := ∀ a, ¬ a = 21 → ¬ a = 22 → ¬ a = 23 → ¬ a = 24 → B a = A a
theorem fZ_F {A B : Nat → Nat → Int32} (h : fZ A B) : cF B = cF A := by unfold cF; rw [h 20 (by decide) (by decide) (by decide) (by decide)]
theorem fZ_Y {A B C : Nat → Nat → Int32} {T Y : Nat → Prop} (h : fZ A B) (h' : fY B C T Y) : fZ A C := fun a h1 h2 h3 h4 => by rw [h'.1 a h1 h2 h3 h4, h a h1 h2 h3 h4]
theorem fZ_d {A B C : Nat → Nat → Int32} (h : fZ A B) (h' : fd B C) : fZ A C := fun a h1 h2 h3 h4 => by rw [h' a h3 h4, h a h1 h2 h3 h4]
theorem Lg_n {F : Nat → Nat → Prop} {X : Nat → Prop} : ∀ n, Lg F (sT 0 n) X n
  | 0 => Lg_0 (fun s z => absurd z.2 (by omega))
  | n + 1 => Lg_T (succ_max (e := n) (Lg_n n)) (fun s y => (sT_s (Nat.zero_le _) s).mp y)
/-- while persons are seated -/
def Fsit (A B : Nat → Nat → Int32) (n : Nat) (g : Nat → Option Nat) : Prop := fZ A B ∧ Mt (cF A) (sT 0 n) (fun _ => False) g ∧ rCY B (sT 0 n) (fun _ => False) g
/-- when no more can be seated -/
def F1 (A B : Nat → Nat → Int32) (n : Nat) (g : Nat → Option Nat) : Prop := fZ A B ∧ Mt (cF A) (sT 0 n) (fun _ => False) g ∧ Lg (cF A) (sT 0 n) (fun _ => False) (sz g 20) ∧ rCY B (sT 0 n) (fun _ => False) g
/-- after settling the seats before k -/
def F2 (A B : Nat → Nat → Int32) (n : Nat) (g fx : Nat → Option Nat) (lf : Nat → Nat) (k : Nat) (st : Int32) : Prop := fZ A B ∧ Mt (cF A) (sT k n) (Xs fx k) g ∧ Lg (cF A) (sT k n) (Xs fx k) (sz g 20) ∧ rCY B (sT k n) (Xs fx k) g ∧ First (cF A) n fx lf k ∧ lf k = sz g 20 ∧ (∀ t, t < k → rP (B 21 t) (fx t)) ∧ ∀ p, p < 20 → (jbit st (nI p) ↔ Xs fx k p)
theorem Xs_s {fx : Nat → Option Nat} {k p : Nat} : Xs (gup fx k (some p)) (k + 1) = XU (Xs fx k) p := by
  funext q
  refine propext ⟨fun ⟨t, h1, h2⟩ => ?_, fun z => ?_⟩
  · by_cases y : t = k
    · subst y; rw [gup_at] at h2; cases h2; exact Or.inr rfl
    · rw [gup_ne y] at h2; exact Or.inl ⟨t, by omega, h2⟩
  · rcases z with ⟨t, h1, h2⟩ | z
    · exact ⟨t, by omega, by rw [gup_ne (by omega)]; exact h2⟩
    · exact ⟨k, by omega, by rw [gup_at, z]⟩
theorem Xs_n {fx : Nat → Option Nat} {k : Nat} : Xs (gup fx k none) (k + 1) = Xs fx k := by
  funext q
  refine propext ⟨fun ⟨t, h1, h2⟩ => ?_, fun ⟨t, h1, h2⟩ => ⟨t, by omega, by rw [gup_ne (by omega)]; exact h2⟩⟩
  by_cases y : t = k
  · subst y; rw [gup_at] at h2; cases h2
  · rw [gup_ne y] at h2; exact ⟨t, by omega, h2⟩
theorem F2_y {A B C : Nat → Nat → Int32} {n k p : Nat} {g g4 fx : Nat → Option Nat} {lf : Nat → Nat} {st : Int32} (h : F2 A B n g fx lf k st) (w1 : OKp (cF B) n (Xs fx k) k (sz g 20) p) (w2 : ∀ q, q < p → ¬ OKp (cF B) n (Xs fx k) k (sz g 20) q) (w3 : fY B C (sT k n) (Xs fx k)) (w4 : C 21 k = nI p) (w5 : rCY C (sT (k + 1) n) (XU (Xs fx k) p) g4) (w6 : Mt (cF B) (sT (k + 1) n) (XU (Xs fx k) p) g4) (w7 : sz g4 20 + 1 = sz g 20) (w8 : Lg (cF B) (sT (k + 1) n) (XU (Xs fx k) p) (sz g4 20)) : F2 A C n g4 (gup fx k (some p)) (nup lf (k + 1) (sz g4 20)) (k + 1) (st ||| (1 : Int32) <<< (nI p &&& 31)) := by
  obtain ⟨h1, h2, h3, h4, h5, h6, h7, h8⟩ := h
  rw [fZ_F h1] at w1 w2 w6 w8
  unfold F2
  rw [Xs_s, nup_at]
  refine ⟨fZ_Y h1 w3, w6, w8, w5, First_add h5 (Or.inl ⟨p, gup_at, by rw [Xs_gup, h6]; exact w1, by rw [Xs_gup, h6]; exact w2, by rw [h6]; exact w7⟩), rfl, fun t ht => ?_, fun q hq => ?_⟩
  · by_cases y : t = k
    · subst y; rw [gup_at, w4]; exact ⟨w1.1, rfl⟩
    · rw [gup_ne y, w3.2.2 t (fun z => by have := z.1; omega)]; exact h7 t (by omega)
  · have := w1.1
    rw [jbit_or (by omega), jbit_one (by omega) (by omega), h8 q hq]
    exact ⟨fun z => z.imp id Eq.symm, fun z => z.imp id Eq.symm⟩
theorem F2_n {A B C : Nat → Nat → Int32} {n k : Nat} {g fx : Nat → Option Nat} {lf : Nat → Nat} {st : Int32} (hk : k < n) (hn : n ≤ 12) (h : F2 A B n g fx lf k st) (w2 : ∀ q, ¬ OKp (cF B) n (Xs fx k) k (sz g 20) q) (w3 : fY B C (sT k n) (Xs fx k)) (w4 : rCY C (sT k n) (Xs fx k) g) : F2 A C n g (gup fx k none) (nup lf (k + 1) (sz g 20)) (k + 1) (st ||| 0) := by
  obtain ⟨h1, h2, h3, h4, h5, h6, h7, h8⟩ := h
  rw [fZ_F h1] at w2
  have hno : ∀ p, ¬ g p = some k := fun p e => by
    obtain ⟨a1, a2, a3, a4⟩ := h2.1 p k e
    have hd : Mt (cF A) (sT (k + 1) n) (XU (Xs fx k) p) (gup g p none) := Mt_del h2 (fun q t e2 y => sT_3 (h2.1 q t e2).2.1 (fun z => by subst z; exact y (h2.2 q p t e2 e))) (fun q t e2 y z => z.elim (h2.1 q t e2).2.2.1 y)
    have hz := sz_del (g := g) (p := p) (by rw [e]; simp) a1
    exact w2 p (OK_of hk a1 a4 a3 h3 hd (by omega)).1
  unfold F2
  rw [Xs_n, nup_at]
  refine ⟨fZ_Y h1 w3, ⟨fun p t e => ⟨(h2.1 p t e).1, sT_3 (h2.1 p t e).2.1 (fun z => hno p (by rw [← z]; exact e)), (h2.1 p t e).2.2⟩, h2.2⟩, Lg_T h3 (fun t y => (sT_2 y).2), ⟨w4.1, fun t ht y => w4.2 t ht (sT_2 y).2⟩, First_add h5 (Or.inr ⟨gup_at, by rw [Xs_gup, h6]; exact w2, h6.symm⟩), rfl, fun t ht => ?_, fun q hq => ?_⟩
  · by_cases y : t = k
    · subst y; rw [gup_at]
      rcases w4.2 t (by omega) ⟨Nat.le_refl _, hk⟩ with z | ⟨p, z, _⟩
      · exact z.1
      · exact absurd z (hno p)
    · rw [gup_ne y, w3.2.2 t (fun z => by have := z.1; omega)]; exact h7 t (by omega)
  · rw [show st ||| 0 = st from Int32.or_zero]; exact h8 q hq
theorem s17b_lp {l : Launch} {E : jEnv} {A : Nat → Nat → Int32} {V : Nat → Int32} {O : Nat → Int64} {Q : jO → List jC → Prop} {n : Nat} (hV : V 5 = nI n) (hn : n ≤ 12) {al : Nat} (hQ : ∀ B fx lf, (∃ g st, F2 A B n g fx lf n st) → lf 0 = al → Q (.inl (some (.int (nI al)))) (hp B V O)) : ∀ (d k : Nat) (B : Nat → Nat → Int32) (g fx : Nat → Option Nat) (lf : Nat → Nat) (st : Int32), k + d = n → F2 A B n g fx lf k st → lf 0 = al → GO l E 17 29 [some (.ref 19), some (.int (nI al)), some (.int st), some (.int (nI k))] [] (hp B V O) 0 0 Q := by
  intro d
  induction d with
  | zero =>
    intro k B g fx lf st hk hF h0
    refine R_iload z17_29 rfl ?_
    refine R_aload z17_30 rfl ?_
    refine R_get z17_31 (k := 2) (f := 5) (by decide +kernel) rfl rfl ?_
    refine R_icmp z17_34 (tn := 52) rfl (fun (h34 : ((V 5) : Int32) ≤ (nI k)) => ?_) (fun q => absurd ((show V 5 ≤ nI k by rw [hV, nge (by omega) (by omega)]; omega)) q)
    refine R_iload z17_52 rfl ?_
    exact R_iret z17_53 (Or.inl (by decide +kernel)) ⟨Nat.zero_le _, Nat.zero_le _⟩ (by have e9 : k = n := (by omega); subst e9; exact hQ B fx lf ⟨g, st, hF⟩ h0)
  | succ d ih =>
    intro k B g fx lf st hk hF h0
    refine R_iload z17_29 rfl ?_
    refine R_aload z17_30 rfl ?_
    refine R_get z17_31 (k := 2) (f := 5) (by decide +kernel) rfl rfl ?_
    refine R_icmp z17_34 (tn := 52) rfl (fun q => absurd q ((show ¬ V 5 ≤ nI k by rw [hV, nge (by omega) (by omega)]; omega))) (fun (h34 : ¬ ((V 5) : Int32) ≤ (nI k)) => ?_)
    refine R_iload z17_37 rfl ?_
    refine R_aload z17_38 rfl ?_
    refine R_iload z17_39 rfl ?_
    refine R_iload z17_40 rfl ?_
    refine R_cv z17_41 (k := 18) (by decide +kernel) rfl rfl (by decide +kernel) (Nat.le_of_ble_eq_true (by rfl)) rfl ⟨rfl, trivial⟩ ?_
    refine s18 (A := B) (Y := Xs fx k) (g := g) hV hn (by omega) hF.2.2.2.2.2.2.2 (by rw [fZ_F hF.1]; exact hF.2.1) (by rw [fZ_F hF.1]; exact hF.2.2.1) (fun B2 p g4 w1 w2 w3 w4 w5 w6 w7 w8 => jBk_ret rfl ⟨rfl, rfl⟩ ?_) (fun B2 w2 w3 w4 => jBk_ret rfl ⟨rfl, rfl⟩ ?_) hF.2.2.2.1
    · refine R_ior z17_44 ?_
      refine R_istore z17_45 (loc' := [some (.ref 19), some (.int (nI al)), some (.int (st ||| ((1 : Int32) <<< (nI p &&& 31)))), some (.int (nI k))]) rfl rfl ?_
      refine R_iinc z17_46 (v := 1) (loc' := [some (.ref 19), some (.int (nI al)), some (.int (st ||| ((1 : Int32) <<< (nI p &&& 31)))), some (.int (nI (k + 1)))]) rfl rfl (by decide) (by rw [nI_1]; rfl) ?_
      refine R_goto z17_49 (tn := 29) rfl ?_
      exact ih (k + 1) B2 _ _ _ _ (by omega) (F2_y hF w1 w2 w3 w4 w5 w6 w7 w8) (by rw [nup_ne (by omega)]; exact h0)
    · refine R_ior z17_44 ?_
      refine R_istore z17_45 (loc' := [some (.ref 19), some (.int (nI al)), some (.int (st ||| 0)), some (.int (nI k))]) rfl rfl ?_
      refine R_iinc z17_46 (v := 1) (loc' := [some (.ref 19), some (.int (nI al)), some (.int (st ||| 0)), some (.int (nI (k + 1)))]) rfl rfl (by decide) (by rw [nI_1]; rfl) ?_
      refine R_goto z17_49 (tn := 29) rfl ?_
      exact ih (k + 1) B2 _ _ _ _ (by omega) (F2_n (by omega) hn hF w2 w3 w4) (by rw [nup_ne (by omega)]; exact h0)
theorem s17a_lp {l : Launch} {E : jEnv} {A : Nat → Nat → Int32} {V : Nat → Int32} {O : Nat → Int64} {Q : jO → List jC → Prop} {n : Nat} (hV : V 5 = nI n) (hn : n ≤ 12) (hK : ∀ B g, F1 A B n g → GO l E 17 25 [some (.ref 19), some (.int (nI (sz g 20))), none, none] [] (hp B V O) 0 0 Q) : ∀ (d k : Nat) (B : Nat → Nat → Int32) (g : Nat → Option Nat), k + d = n → Fsit A B n g → sz g 20 = k → GO l E 17 2 [some (.ref 19), some (.int (nI k)), none, none] [] (hp B V O) 0 0 Q := by
  intro d
  induction d with
  | zero =>
    intro k B g hk hF hz
    refine R_iload z17_2 rfl ?_
    refine R_aload z17_3 rfl ?_
    refine R_get z17_4 (k := 2) (f := 5) (by decide +kernel) rfl rfl ?_
    refine R_icmp z17_7 (tn := 25) rfl (fun (h7 : ((V 5) : Int32) ≤ (nI k)) => ?_) (fun q => absurd ((show V 5 ≤ nI k by rw [hV, nge (by omega) (by omega)]; omega)) q)
    subst hz
    exact hK B g ⟨hF.1, hF.2.1, fun h hh => Nat.le_trans (Lg_n n h hh) (by omega), hF.2.2⟩
  | succ d ih =>
    intro k B g hk hF hz
    refine R_iload z17_2 rfl ?_
    refine R_aload z17_3 rfl ?_
    refine R_get z17_4 (k := 2) (f := 5) (by decide +kernel) rfl rfl ?_
    refine R_icmp z17_7 (tn := 25) rfl (fun q => absurd q ((show ¬ V 5 ≤ nI k by rw [hV, nge (by omega) (by omega)]; omega))) (fun (h7 : ¬ ((V 5) : Int32) ≤ (nI k)) => ?_)
    refine R_aload z17_10 rfl ?_
    refine R_iconst z17_11 (v := 0) (by decide) ?_
    refine R_iconst z17_12 (v := 0) (by decide) ?_
    refine R_cv z17_13 (k := 22) (by decide +kernel) rfl rfl (by decide +kernel) (Nat.le_of_ble_eq_true (by rfl)) rfl ⟨rfl, trivial⟩ ?_
    refine s22 (A := B) (f := 0) (n := n) (Y := fun _ => False) (g := g) hV hn (Nat.zero_le _) (fun p hp => ⟨fun y => absurd y (jbit_0 (by omega)), fun y => y.elim⟩) (by rw [fZ_F hF.1]; exact hF.2.1) hF.2.2 (fun B2 g2 w1 w2 w3 w4 => jBk_ret rfl ⟨rfl, rfl⟩ ?_) (fun B2 w1 w2 => jBk_ret rfl ⟨rfl, rfl⟩ ?_)
    · refine R_if z17_16 (tn := 25) rfl (fun q => absurd (show (1 : Int32) = 0 from q) (by decide)) (fun _ => ?_)
      refine R_iinc z17_19 (v := 1) (loc' := [some (.ref 19), some (.int (nI (k + 1))), none, none]) rfl rfl (by decide) (by rw [nI_1]; rfl) ?_
      refine R_goto z17_22 (tn := 2) rfl ?_
      exact ih (k + 1) B2 g2 (by omega) ⟨fZ_Y hF.1 w1, by rw [fZ_F hF.1] at w3; exact w3, w2⟩ (by omega)
    · refine R_if z17_16 (tn := 25) rfl (fun _ => ?_) (fun q => absurd (show (0 : Int32) = 0 by decide) q)
      subst hz
      rw [fZ_F hF.1] at w2
      exact hK B2 g ⟨fZ_d hF.1 w1, hF.2.1, w2, rCY_fd hF.2.2 w1⟩
theorem s17 {l : Launch} {E : jEnv} {A : Nat → Nat → Int32} {V : Nat → Int32} {O : Nat → Int64} {Q : jO → List jC → Prop} {n : Nat} (hV : V 5 = nI n) (hn : n ≤ 12) (h21 : ∀ s, s < 12 → A 21 s = -1) (h22 : ∀ p, p < 20 → A 22 p = -1) (hQ : ∀ B fx lf, fZ A B → First (cF A) n fx lf n → (∀ s, s < n → rP (B 21 s) (fx s)) → Q (.inl (some (.int (nI (lf 0))))) (hp B V O)) : GO l E 17 0 [some (.ref 19), none, none, none] [] (hp A V O) 0 0 Q := by
  refine R_iconst z17_0 (v := 0) (by decide) ?_
  refine R_istore z17_1 (loc' := [some (.ref 19), some (.int 0), none, none]) rfl rfl ?_
  refine s17a_lp hV hn ?_ n 0 A (fun _ => none) (by omega) ⟨fun _ _ _ _ _ => rfl, ⟨fun _ _ z => (by cases z), fun _ _ _ z => (by cases z)⟩, ⟨fun p hp _ => h22 p hp, fun s hs _ => Or.inl ⟨h21 s hs, fun p z => (by cases z)⟩⟩⟩ rfl
  intro B g hF
  refine R_iconst z17_25 (v := 0) (by decide) ?_
  refine R_istore z17_26 (loc' := [some (.ref 19), some (.int (nI (sz g 20))), some (.int 0), none]) rfl rfl ?_
  refine R_iconst z17_27 (v := 0) (by decide) ?_
  refine R_istore z17_28 (loc' := [some (.ref 19), some (.int (nI (sz g 20))), some (.int 0), some (.int 0)]) rfl rfl ?_
  have hx : Xs (fun _ => none) 0 = fun _ => False := by
    funext q
    exact propext ⟨fun ⟨t, ht, _⟩ => absurd ht (by omega), fun z => z.elim⟩
  refine s17b_lp (A := A) hV hn ?_ n 0 B g (fun _ => none) (fun _ => sz g 20) 0 (by omega) ⟨hF.1, by rw [hx]; exact hF.2.1, by rw [hx]; exact hF.2.2.1, by rw [hx]; exact hF.2.2.2, ⟨⟨⟨g, hF.2.1, rfl⟩, hF.2.2.1⟩, fun _ h => absurd h (by omega)⟩, rfl, fun _ h => absurd h (by omega), fun p hp => ⟨fun y => absurd y (jbit_0 (by omega)), fun ⟨t, ht, _⟩ => absurd ht (by omega)⟩⟩ rfl
  intro B2 fx lf hF2 h0
  obtain ⟨g3, st3, hF3⟩ := hF2
  rw [← h0]
  exact hQ B2 fx lf hF3.1 hF3.2.2.2.2.1 hF3.2.2.2.2.2.2.1
theorem cSe_e : ∀ k, k < 12 → (4 * nI k).toInt64 &&& 63 = Int64.ofNat (4 * k) := by
  have h : ∀ k : Fin 12, (4 * nI k.1).toInt64 &&& 63 = Int64.ofNat (4 * k.1) := by decide +kernel
  exact fun k hk => h ⟨k, hk⟩
def cBad (V : Nat → Int32) (x : Int64) (k : Nat) : Prop := cSeat x k < 0 ∨ ¬ cSeat x k < V 2
theorem s40a_lp {l : Launch} {E : jEnv} {A : Nat → Nat → Int32} {V : Nat → Int32} {O : Nat → Int64} {Q : jO → List jC → Prop} {x : Int64} {n dd : Int32} {m : Nat} (hm : m ≤ 12) (hbad : ¬ (∀ j, j < m → ¬ cBad V x j) → Q (.inr "java/lang/IllegalArgumentException") (hp A V O)) (hK : (∀ j, j < m → ¬ cBad V x j) → GO l E 40 34 [some (.ref 0), some (.long x), none, some (.int n), some (.int dd), some (.int (nI m)), none] [] (hp A V O) 0 0 Q) : ∀ (d k : Nat), k + d = m → (∀ j, j < k → ¬ cBad V x j) → GO l E 40 11 [some (.ref 0), some (.long x), none, some (.int n), some (.int dd), some (.int (nI m)), some (.int (nI k))] [] (hp A V O) 0 0 Q := by
  intro d
  induction d with
  | zero =>
    intro k hk h1
    refine R_iload z40_11 rfl ?_
    refine R_iload z40_13 rfl ?_
    refine R_icmp z40_15 (tn := 34) rfl (fun (h15 : ((nI m) : Int32) ≤ (nI k)) => ?_) (fun q => absurd ((show nI m ≤ nI k by rw [nge (by omega) (by omega)]; omega)) q)
    have e9 : k = m := by omega
    subst e9
    exact GO_drop 6 (hK h1)
  | succ d ih =>
    intro k hk h1
    refine R_iload z40_11 rfl ?_
    refine R_iload z40_13 rfl ?_
    refine R_icmp z40_15 (tn := 34) rfl (fun q => absurd q ((show ¬ nI m ≤ nI k by rw [nge (by omega) (by omega)]; omega))) (fun (h15 : ¬ ((nI m) : Int32) ≤ (nI k)) => ?_)
    refine R_aload z40_18 rfl ?_
    refine R_lload z40_19 rfl ?_
    refine R_iload z40_20 rfl ?_
    refine R_cs z40_22 (k := 50) (kind := 1) (by decide +kernel) (by decide) rfl rfl (by decide +kernel) (Nat.le_of_ble_eq_true (by rfl)) rfl ?_
    refine s50 (jBk_ret rfl ⟨rfl, rfl⟩ ?_)
    refine R_cv z40_25 (k := 44) (by decide +kernel) rfl rfl (by decide +kernel) (Nat.le_of_ble_eq_true (by rfl)) rfl ⟨rfl, trivial⟩ ?_
    refine s44 (fun g1 g2 => jBk_ret rfl ⟨rfl, rfl⟩ ?_) (fun g => jBk_thr rfl ⟨rfl, rfl⟩ (hbad (fun z => z k (by omega) g)))
    refine R_iinc z40_28 (v := 1) (loc' := [some (.ref 0), some (.long x), none, some (.int n), some (.int dd), some (.int (nI m)), some (.int (nI (k + 1)))]) rfl rfl (by decide) (by rw [nI_1]; rfl) ?_
    refine R_goto z40_31 (tn := 11) rfl ?_
    refine ih (k + 1) (by omega) (fun j hj => ?_)
    by_cases y : j = k
    · subst y; exact fun z => z.elim g1 (fun z => z g2)
    · exact h1 j (by omega)
def cFt (A : Nat → Nat → Int32) (V : Nat → Int32) (x : Int64) (dd : Int32) (B : Nat → Nat → Int32) (k : Nat) : Prop := (∀ a, ¬ a = 20 → ¬ a = 21 → ¬ a = 22 → B a = A a) ∧ (∀ s, s < 12 → B 21 s = -1) ∧ (∀ p, p < 20 → B 22 p = -1) ∧ ∀ s, s < k → B 20 s = cFit A V (cSeat x s).toNatClampNeg dd 20
theorem cFit_c {A B : Nat → Nat → Int32} {V V' : Nat → Int32} (h : ∀ a, ¬ a = 20 → ¬ a = 21 → ¬ a = 22 → B a = A a) (hV : V' 0 = V 0) (c : Nat) (dd : Int32) : ∀ k, cFit B V' c dd k = cFit A V c dd k
  | 0 => rfl
  | k + 1 => by
    have e : cLap B k c = cLap A k c := by unfold cLap cLof; rw [h 15 (by decide) (by decide) (by decide), h 12 (by decide) (by decide) (by decide), h 2 (by decide) (by decide) (by decide), h 14 (by decide) (by decide) (by decide)]
    rw [cFit, cFit, cFit_c h hV c dd k, e, hV]
theorem cWf_c {A B : Nat → Nat → Int32} {V : Nat → Int32} {n r : Nat} (h : ∀ a, ¬ a = 20 → ¬ a = 21 → ¬ a = 22 → B a = A a) (hW : cWf A V n r) : cWf B V n r := ⟨hW.1, hW.2.1, hW.2.2.1, hW.2.2.2.1, by rw [h 15 (by decide) (by decide) (by decide)]; exact hW.2.2.2.2.1, by rw [h 13 (by decide) (by decide) (by decide)]; exact hW.2.2.2.2.2⟩
theorem cb_nat {V : Nat → Int32} {x : Int64} {k nc : Nat} (hV : V 2 = nI nc) (hn : nc ≤ 16) (h : ¬ cBad V x k) : ∃ c, c < nc ∧ cSeat x k = nI c := by
  have h1 : ¬ cSeat x k < 0 := fun z => h (Or.inl z)
  have h2 : cSeat x k < V 2 := Classical.byContradiction (fun z => h (Or.inr z))
  rw [hV] at h2
  exact jnat h1 h2 (by omega)
theorem s60x {l : Launch} {E : jEnv} {A : Nat → Nat → Int32} {V : Nat → Int32} {O : Nat → Int64} {Q : jO → List jC → Prop} {c n r : Nat} {y days w : Int32} (hy : y = nI c) (hW : cWf A V n r) (hc : c < 16) (hw : cFit A V c days 20 = w) (hQ : Q (.inl (some (.int w))) (hp A V O)) : GO l E 60 0 [some (.ref 0), some (.int y), some (.int days), none, none, none] [] (hp A V O) 0 0 Q := by subst hy; subst hw; exact s60 hW hc hQ
theorem s40b_lp {l : Launch} {E : jEnv} {A : Nat → Nat → Int32} {V : Nat → Int32} {O : Nat → Int64} {Q : jO → List jC → Prop} {x : Int64} {dd : Int32} {m nc r : Nat} (hm : m ≤ 12) (hW : cWf A V nc r) (h1 : ∀ j, j < m → ¬ cBad V x j) (hK : ∀ B, cFt A V x dd B m → GO l E 40 96 [some (.ref 0), some (.long x), none, some (.int (nI m)), some (.int dd), some (.int (nI m)), none] [] (hp B (va_up V 5 (nI m)) O) 0 0 Q) : ∀ (d k : Nat) (B : Nat → Nat → Int32), k + d = m → cFt A V x dd B k → GO l E 40 61 [some (.ref 0), some (.long x), none, some (.int (nI m)), some (.int dd), some (.int (nI m)), some (.int (nI k))] [] (hp B (va_up V 5 (nI m)) O) 0 0 Q := by
  intro d
  induction d with
  | zero =>
    intro k B hk hF
    refine R_iload z40_61 rfl ?_
    refine R_iload z40_63 rfl ?_
    refine R_icmp z40_65 (tn := 96) rfl (fun (h65 : ((nI m) : Int32) ≤ (nI k)) => ?_) (fun q => absurd ((show nI m ≤ nI k by rw [nge (by omega) (by omega)]; omega)) q)
    have e9 : k = m := by omega
    subst e9
    exact GO_drop 6 (hK B hF)
  | succ d ih =>
    intro k B hk hF
    refine R_iload z40_61 rfl ?_
    refine R_iload z40_63 rfl ?_
    refine R_icmp z40_65 (tn := 96) rfl (fun q => absurd q ((show ¬ nI m ≤ nI k by rw [nge (by omega) (by omega)]; omega))) (fun (h65 : ¬ ((nI m) : Int32) ≤ (nI k)) => ?_)
    obtain ⟨c, hc, ec⟩ := cb_nat hW.1 hW.2.1 (h1 k (by omega))
    refine R_aload z40_68 rfl ?_
    refine R_get z40_69 (k := 3) (f := 2) (by decide +kernel) rfl rfl ?_
    refine R_get z40_72 (k := 2) (f := 0) (by decide +kernel) rfl rfl ?_
    refine R_iload z40_75 rfl ?_
    refine R_aload z40_77 rfl ?_
    refine R_lload z40_78 rfl ?_
    refine R_iload z40_79 rfl ?_
    refine R_cs z40_81 (k := 50) (kind := 1) (by decide +kernel) (by decide) rfl rfl (by decide +kernel) (Nat.le_of_ble_eq_true (by rfl)) rfl ?_
    refine s50 (jBk_ret rfl ⟨rfl, rfl⟩ ?_)
    refine R_iload z40_84 rfl ?_
    refine R_cv z40_86 (k := 60) (by decide +kernel) rfl rfl (by decide +kernel) (Nat.le_of_ble_eq_true (by rfl)) rfl ⟨rfl, trivial⟩ ?_
    refine s60x ec (show cWf B (va_up V 5 (nI m)) nc r from cWf_c (V := V) hF.1 hW) (by have := hW.2.1; omega) (cFit_c hF.1 (V := V) rfl c dd 20) (jBk_ret rfl ⟨rfl, rfl⟩ ?_)
    refine R_ist z40_89 (n := 12) (f := B 20) (h' := hp (va_up B 20 (upd (B 20) k (cFit A V c dd 20))) (va_up V 5 (nI m)) O) rfl (nin (by omega) (by decide)) (by rw [ncl (by omega)]; rfl) ?_
    refine R_iinc z40_90 (v := 1) (loc' := [some (.ref 0), some (.long x), none, some (.int (nI m)), some (.int dd), some (.int (nI m)), some (.int (nI (k + 1)))]) rfl rfl (by decide) (by rw [nI_1]; rfl) ?_
    refine R_goto z40_93 (tn := 61) rfl ?_
    refine ih (k + 1) _ (by omega) ⟨fun a z1 z2 z3 => by rw [vb_ne z1]; exact hF.1 a z1 z2 z3, hF.2.1, hF.2.2.1, fun s hs => ?_⟩
    rw [vb_at]
    by_cases y : s = k
    · subst y; rw [upd_at, ec, ncl (by have := hW.2.1; omega)]
    · rw [upd_ne y]; exact hF.2.2.2 s (by omega)
theorem told_neg {n : Int32} {m : Nat} (h : told n m) (hn : n < 0) : m = 0 := by
  rcases Nat.eq_zero_or_pos m with z | z
  · exact z
  · exact absurd (Int32.le_of_lt hn) (h.2.1 0 z)
theorem told_big {n : Int32} {m : Nat} (h : told n m) (hn : 12 < n) : m = 12 := by
  rcases h.2.2 with z | z
  · have hm := h.1
    have a := Int32.le_iff_toInt_le.mp z
    have b := Int32.lt_iff_toInt_lt.mp hn
    rw [nI_toInt (by omega)] at a
    have e12 : (12 : Int32).toInt = 12 := by decide
    omega
  · exact z
theorem s40c {l : Launch} {E : jEnv} {A : Nat → Nat → Int32} {V : Nat → Int32} {O : Nat → Int64} {Q : jO → List jC → Prop} {x : Int64} {n dd y : Int32} {m nc r : Nat} (hW : cWf A V nc r) (hm : told n m) (h2 : ¬ (jrg n 0 12 ∧ jrg dd 0 2100) → Q (.inr "java/lang/IndexOutOfBoundsException") (hp A V O)) (hQ : jrg n 0 12 → jrg dd 0 2100 → ∀ B fx lf, (∀ a, ¬ a = 20 → ¬ a = 21 → ¬ a = 22 → ¬ a = 23 → ¬ a = 24 → B a = A a) → First (cF B) m fx lf m → (∀ s, s < m → rP (B 21 s) (fx s)) → (∀ s, s < m → B 20 s = cFit A V (cSeat x s).toNatClampNeg dd 20) → Q (.inl (some (.int (nI (lf 0))))) (hp B (va_up V 5 (nI m)) O)) (hy : jrg n 0 12 → y = nI m) (hb : ∀ j, j < m → ¬ cBad V x j) : GO l E 40 34 [some (.ref 0), some (.long x), none, some (.int n), some (.int dd), some (.int y), none] [] (hp A V O) 0 0 Q := by
  refine R_iload z40_34 rfl ?_
  refine R_iconst z40_35 (v := 0) (by decide) ?_
  refine R_bipush z40_36 (v := 12) (by decide) ?_
  refine R_cs z40_38 (k := 46) (kind := 1) (by decide +kernel) (by decide) rfl rfl (by decide +kernel) (Nat.le_of_ble_eq_true (by rfl)) rfl ?_
  refine s46 (fun a1 a2 => jBk_ret rfl ⟨rfl, rfl⟩ ?_) (fun g => jBk_thr rfl ⟨rfl, rfl⟩ (h2 (fun z => g.elim z.1.1 (fun y => y z.1.2))))
  refine R_iload z40_41 rfl ?_
  refine R_iconst z40_43 (v := 0) (by decide) ?_
  refine R_sipush z40_44 (v := 2100) (by decide) ?_
  refine R_cs z40_47 (k := 46) (kind := 1) (by decide +kernel) (by decide) rfl rfl (by decide +kernel) (Nat.le_of_ble_eq_true (by rfl)) rfl ?_
  refine s46 (fun b1 b2 => jBk_ret rfl ⟨rfl, rfl⟩ ?_) (fun g => jBk_thr rfl ⟨rfl, rfl⟩ (h2 (fun z => g.elim z.2.1 (fun y => y z.2.2))))
  refine R_aload z40_50 rfl ?_
  refine R_get z40_51 (k := 3) (f := 2) (by decide +kernel) rfl rfl ?_
  refine R_iload z40_54 rfl ?_
  refine R_cv z40_55 (k := 16) (by decide +kernel) rfl rfl (by decide +kernel) (Nat.le_of_ble_eq_true (by rfl)) rfl ⟨rfl, trivial⟩ ?_
  refine s16 (jBk_ret rfl ⟨rfl, rfl⟩ ?_)
  refine R_iconst z40_58 (v := 0) (by decide) ?_
  refine R_istore z40_59 (loc' := [some (.ref 0), some (.long x), none, some (.int n), some (.int dd), some (.int y), some (.int 0)]) rfl rfl ?_
  rw [hy ⟨a1, a2⟩, told_in hm ⟨a1, a2⟩]
  refine s40b_lp (A := A) hm.1 hW hb ?_ m 0 _ (by omega) ⟨fun a z1 z2 z3 => by rw [vb_ne z3, vb_ne z2], fun s hs => if_pos hs, fun p hp => if_pos hp, fun _ h => absurd h (by omega)⟩
  intro B hF
  refine R_aload z40_96 rfl ?_
  refine R_get z40_97 (k := 3) (f := 2) (by decide +kernel) rfl rfl ?_
  refine R_cv z40_100 (k := 17) (by decide +kernel) rfl rfl (by decide +kernel) (Nat.le_of_ble_eq_true (by rfl)) rfl ⟨rfl, trivial⟩ ?_
  refine s17 (A := B) (n := m) rfl hm.1 hF.2.1 hF.2.2.1 (fun B2 fx lf w1 w2 w3 => ?_)
  refine jBk_ret rfl ⟨rfl, rfl⟩ ?_
  refine R_iret z40_103 (Or.inl (by decide +kernel)) ⟨Nat.zero_le _, Nat.zero_le _⟩ (hQ ⟨a1, a2⟩ ⟨b1, b2⟩ B2 fx lf (fun a z0 z1 z2 z3 z4 => ?_) (by rw [fZ_F w1]; exact w2) w3 (fun s hs => ?_))
  · rw [w1 a z1 z2 z3 z4, hF.1 a z0 z1 z2]
  · rw [w1 20 (by decide) (by decide) (by decide) (by decide)]; exact hF.2.2.2 s hs
theorem s40n {l : Launch} {E : jEnv} {A : Nat → Nat → Int32} {V : Nat → Int32} {O : Nat → Int64} {Q : jO → List jC → Prop} {x : Int64} {n dd : Int32} {m nc r : Nat} (hW : cWf A V nc r) (hm : told n m) (h1 : ¬ (∀ j, j < m → ¬ cBad V x j) → Q (.inr "java/lang/IllegalArgumentException") (hp A V O)) (h2 : (∀ j, j < m → ¬ cBad V x j) → ¬ (jrg n 0 12 ∧ jrg dd 0 2100) → Q (.inr "java/lang/IndexOutOfBoundsException") (hp A V O)) (hQ : (∀ j, j < m → ¬ cBad V x j) → jrg n 0 12 → jrg dd 0 2100 → ∀ B fx lf, (∀ a, ¬ a = 20 → ¬ a = 21 → ¬ a = 22 → ¬ a = 23 → ¬ a = 24 → B a = A a) → First (cF B) m fx lf m → (∀ s, s < m → rP (B 21 s) (fx s)) → (∀ s, s < m → B 20 s = cFit A V (cSeat x s).toNatClampNeg dd 20) → Q (.inl (some (.int (nI (lf 0))))) (hp B (va_up V 5 (nI m)) O)) (hneg : n < 0) : GO l E 40 0 [some (.ref 0), some (.long x), none, some (.int n), some (.int dd), none, none] [] (hp A V O) 0 0 Q := by
  refine R_iload z40_0 rfl ?_
  refine R_bipush z40_1 (v := 12) (by decide) ?_
  refine R_cs z40_3 (k := 2) (kind := 1) (by decide +kernel) (by decide) rfl rfl (by decide +kernel) (Nat.le_of_ble_eq_true (by rfl)) rfl ?_
  refine s2 (fun g => absurd (Int32.lt_trans g hneg) (by decide)) (fun g => jBk_ret rfl ⟨rfl, rfl⟩ ?_)
  refine R_istore z40_6 (loc' := [some (.ref 0), some (.long x), none, some (.int n), some (.int dd), some (.int n), none]) rfl rfl ?_
  refine R_iconst z40_8 (v := 0) (by decide) ?_
  refine R_istore z40_9 (loc' := [some (.ref 0), some (.long x), none, some (.int n), some (.int dd), some (.int n), some (.int 0)]) rfl rfl ?_
  refine R_iload z40_11 rfl ?_
  refine R_iload z40_13 rfl ?_
  refine R_icmp z40_15 (tn := 34) rfl (fun (h15 : (n : Int32) ≤ 0) => ?_) (fun q => absurd ((show n ≤ 0 from Int32.le_of_lt hneg)) q)
  have hb : ∀ j, j < m → ¬ cBad V x j := fun j hj => absurd hj (by rw [told_neg hm hneg]; omega)
  exact GO_drop 6 (s40c hW hm (h2 hb) (hQ hb) (fun z => absurd hneg z.1) hb)
theorem s2x {l : Launch} {E : jEnv} {A : Nat → Nat → Int32} {V : Nat → Int32} {O : Nat → Int64} {Q : jO → List jC → Prop} {x y : Int32} (h1 : 12 < x → 12 = y) (h0 : ¬ 12 < x → x = y) (hQ : Q (.inl (some (.int y))) (hp A V O)) : GO l E 2 0 [some (.int x), some (.int 12)] [] (hp A V O) 0 0 Q := s2 (fun g => by rw [h1 g]; exact hQ) (fun g => by rw [h0 g]; exact hQ)
theorem s40p {l : Launch} {E : jEnv} {A : Nat → Nat → Int32} {V : Nat → Int32} {O : Nat → Int64} {Q : jO → List jC → Prop} {x : Int64} {n dd : Int32} {m nc r : Nat} (hW : cWf A V nc r) (hm : told n m) (h1 : ¬ (∀ j, j < m → ¬ cBad V x j) → Q (.inr "java/lang/IllegalArgumentException") (hp A V O)) (h2 : (∀ j, j < m → ¬ cBad V x j) → ¬ (jrg n 0 12 ∧ jrg dd 0 2100) → Q (.inr "java/lang/IndexOutOfBoundsException") (hp A V O)) (hQ : (∀ j, j < m → ¬ cBad V x j) → jrg n 0 12 → jrg dd 0 2100 → ∀ B fx lf, (∀ a, ¬ a = 20 → ¬ a = 21 → ¬ a = 22 → ¬ a = 23 → ¬ a = 24 → B a = A a) → First (cF B) m fx lf m → (∀ s, s < m → rP (B 21 s) (fx s)) → (∀ s, s < m → B 20 s = cFit A V (cSeat x s).toNatClampNeg dd 20) → Q (.inl (some (.int (nI (lf 0))))) (hp B (va_up V 5 (nI m)) O)) (hneg : ¬ n < 0) : GO l E 40 0 [some (.ref 0), some (.long x), none, some (.int n), some (.int dd), none, none] [] (hp A V O) 0 0 Q := by
  refine R_iload z40_0 rfl ?_
  refine R_bipush z40_1 (v := 12) (by decide) ?_
  refine R_cs z40_3 (k := 2) (kind := 1) (by decide +kernel) (by decide) rfl rfl (by decide +kernel) (Nat.le_of_ble_eq_true (by rfl)) rfl ?_
  refine s2x (y := nI m) (fun g => by rw [told_big hm g]; decide) (fun g => told_in hm ⟨hneg, Int32.not_lt.mp g⟩) (jBk_ret rfl ⟨rfl, rfl⟩ ?_)
  refine R_istore z40_6 (loc' := [some (.ref 0), some (.long x), none, some (.int n), some (.int dd), some (.int (nI m)), none]) rfl rfl ?_
  refine R_iconst z40_8 (v := 0) (by decide) ?_
  refine R_istore z40_9 (loc' := [some (.ref 0), some (.long x), none, some (.int n), some (.int dd), some (.int (nI m)), some (.int 0)]) rfl rfl ?_
  refine s40a_lp hm.1 h1 (fun hb => ?_) m 0 (by omega) (fun _ h => absurd h (by omega))
  exact s40c hW hm (h2 hb) (hQ hb) (fun z => rfl) hb
theorem s40 {l : Launch} {E : jEnv} {A : Nat → Nat → Int32} {V : Nat → Int32} {O : Nat → Int64} {Q : jO → List jC → Prop} {x : Int64} {n dd : Int32} {m nc r : Nat} (hW : cWf A V nc r) (hm : told n m) (h1 : ¬ (∀ j, j < m → ¬ cBad V x j) → Q (.inr "java/lang/IllegalArgumentException") (hp A V O)) (h2 : (∀ j, j < m → ¬ cBad V x j) → ¬ (jrg n 0 12 ∧ jrg dd 0 2100) → Q (.inr "java/lang/IndexOutOfBoundsException") (hp A V O)) (hQ : (∀ j, j < m → ¬ cBad V x j) → jrg n 0 12 → jrg dd 0 2100 → ∀ B fx lf, (∀ a, ¬ a = 20 → ¬ a = 21 → ¬ a = 22 → ¬ a = 23 → ¬ a = 24 → B a = A a) → First (cF B) m fx lf m → (∀ s, s < m → rP (B 21 s) (fx s)) → (∀ s, s < m → B 20 s = cFit A V (cSeat x s).toNatClampNeg dd 20) → Q (.inl (some (.int (nI (lf 0))))) (hp B (va_up V 5 (nI m)) O)) : GO l E 40 0 [some (.ref 0), some (.long x), none, some (.int n), some (.int dd), none, none] [] (hp A V O) 0 0 Q := (Classical.em (n < 0)).elim (fun z => s40n hW hm h1 h2 hQ z) (fun z => s40p hW hm h1 h2 hQ z)

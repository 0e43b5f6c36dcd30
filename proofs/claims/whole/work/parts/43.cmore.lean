def fd (A B : Nat → Nat → Int32) : Prop := ∀ a, ¬ a = 23 → ¬ a = 24 → B a = A a
theorem fd_23 {A B : Nat → Nat → Int32} {f : Nat → Int32} (h : fd A B) : fd A (va_up B 23 f) := fun a h1 h2 => by rw [vb_ne h1]; exact h a h1 h2
theorem fd_24 {A B : Nat → Nat → Int32} {f : Nat → Int32} (h : fd A B) : fd A (va_up B 24 f) := fun a h1 h2 => by rw [vb_ne h2]; exact h a h1 h2
theorem fd_Y {A B C : Nat → Nat → Int32} {T Y : Nat → Prop} (h : fd A B) (h' : fY B C T Y) : fY A C T Y := ⟨fun a h1 h2 h3 h4 => by rw [h'.1 a h1 h2 h3 h4, h a h3 h4], fun p hp => by rw [h'.2.1 p hp, h 22 (by decide) (by decide)], fun s hs => by rw [h'.2.2 s hs, h 21 (by decide) (by decide)]⟩
theorem fd_fY {A B : Nat → Nat → Int32} {T Y : Nat → Prop} (h : fd A B) : fY A B T Y := fd_Y h fY_r
theorem rCY_fd {A B : Nat → Nat → Int32} {T Y : Nat → Prop} {g : Nat → Option Nat} (h : rCY A T Y g) (hB : fd A B) : rCY B T Y g := by
  unfold rCY onC
  rw [hB 21 (by decide) (by decide), hB 22 (by decide) (by decide)]
  exact h
def cSt (A B : Nat → Nat → Int32) (Y : Nat → Prop) (g : Nat → Option Nat) (S : Nat → Prop) (c : Nat) (fr : Nat → Option Nat) (rk ix qs : Nat → Nat) (m : Nat) (sv : Int32) : Prop := fd A B ∧ SIc (cF A) Y g S c fr rk ix qs m ∧ (∀ j, j < m → B 23 j = nI (qs j)) ∧ (∀ p t, fr p = some t → B 24 p = nI t) ∧ ∀ p, p < 20 → (jbit sv (nI p) ↔ (Y p ∨ ¬ fr p = none))
theorem f24_up {B : Nat → Nat → Int32} {fr : Nat → Option Nat} {q t : Nat} (h : ∀ p t, fr p = some t → B 24 p = nI t) : ∀ p t', gup fr q (some t) p = some t' → upd (B 24) q (nI t) p = nI t' := by
  intro p t' e
  by_cases z : p = q
  · subst z; rw [gup_at] at e; cases e; exact upd_at
  · rw [gup_ne z] at e; rw [upd_ne z]; exact h p t' e
theorem cSt_add {A B : Nat → Nat → Int32} {Y S : Nat → Prop} {g : Nat → Option Nat} {c q s j : Nat} {fr : Nat → Option Nat} {rk ix qs : Nat → Nat} {m : Nat} {sv : Int32} (h : cSt A B Y g S c fr rk ix qs m sv) (hq : fr q = none) (h1 : q < 20) (hj : j < m) (h3 : cF A (qs j) q) (h4 : ¬ Y q) (h5 : g q = some s) : cSt A (va_up (va_up B 24 (upd (B 24) q (nI (qs j)))) 23 (upd (B 23) m (nI s))) Y g S c (gup fr q (some (qs j))) (nup rk q j) (nup ix q m) (nup qs m s) (m + 1) (sv ||| (1 : Int32) <<< (nI q &&& 31)) := by
  refine ⟨fd_23 (fd_24 h.1), SIc_add h.2.1 hq h1 hj h3 h4 h5, fun i hi => ?_, ?_, fun p hp => ?_⟩
  · rw [vb_at]
    by_cases z : i = m
    · subst z; rw [upd_at, nup_at]
    · rw [upd_ne z, nup_ne z]; exact h.2.2.1 i (by omega)
  · exact f24_up h.2.2.2.1
  · rw [jbit_or (by omega), jbit_one (by omega) (by omega), h.2.2.2.2 p hp]
    by_cases z : p = q
    · subst z; rw [gup_at]; simp
    · rw [gup_ne z]
      exact ⟨fun y => y.elim id (fun y => absurd y.symm z), Or.inl⟩
def cRch (A : Nat → Nat → Int32) (Y : Nat → Prop) (fr : Nat → Option Nat) (t k : Nat) : Prop := ∀ q, q < k → ¬ Y q → cF A t q → ¬ fr q = none
theorem cRch_n {A : Nat → Nat → Int32} {Y : Nat → Prop} {fr : Nat → Option Nat} {t k : Nat} (h : cRch A Y fr t k) (hk : ¬ Y k → cF A t k → ¬ fr k = none) : cRch A Y fr t (k + 1) := fun q hq => by
  by_cases z : q = k
  · subst z; exact hk
  · exact h q (by omega)
theorem cRch_le {A : Nat → Nat → Int32} {Y : Nat → Prop} {fr fr' : Nat → Option Nat} {t k : Nat} (h : cRch A Y fr t k) (hl : frLe fr fr') : cRch A Y fr' t k := fun q h1 h2 h3 => hl q (h q h1 h2 h3)
theorem cRch_g {A : Nat → Nat → Int32} {Y : Nat → Prop} {fr : Nat → Option Nat} {t u k : Nat} (h : cRch A Y fr t k) : cRch A Y (gup fr k (some u)) t (k + 1) := cRch_n (cRch_le h frLe_g) (fun _ _ => by rw [gup_at]; simp)
def cCl (F : Nat → Nat → Prop) (Y : Nat → Prop) (g : Nat → Option Nat) (S : Nat → Prop) : Prop := ∃ R : Nat → Prop, (∀ e, S e → ∀ p, p < 20 → ¬ Y p → F e p → R p) ∧ ∀ p, R p → ∃ t, g p = some t ∧ ∀ q, q < 20 → ¬ Y q → F t q → R q
theorem cCl_end {A B : Nat → Nat → Int32} {Y S : Nat → Prop} {g : Nat → Option Nat} {c : Nat} {fr : Nat → Option Nat} {rk ix qs : Nat → Nat} {m : Nat} {sv : Int32} (h : cSt A B Y g S c fr rk ix qs m sv) (h2 : ∀ j, j < m → cRch A Y fr (qs j) 20) : cCl (cF A) Y g S := by
  refine ⟨fun p => ¬ fr p = none, fun e he p hp hY hF => ?_, fun p hp => ?_⟩
  · obtain ⟨j, j1, j2⟩ := h.2.1.2.1.2.2 e he
    have hc := h.2.1.2.2.1
    have := h2 j (by omega)
    rw [j2] at this
    exact this p hp hY hF
  · obtain ⟨_, b, c⟩ := h.2.1.2.2.2.2 p hp
    exact ⟨_, c, h2 _ b⟩
/-- the empty seats of T -/
def Em (T : Nat → Prop) (g : Nat → Option Nat) : Nat → Prop := fun s => T s ∧ ∀ p, ¬ g p = some s
theorem cCl_max {F : Nat → Nat → Prop} {T Y : Nat → Prop} {g : Nat → Option Nat} (hg : Mt F T Y g) (h : cCl F Y g (Em T g)) : Lg F T Y (sz g 20) := by
  obtain ⟨R, r1, r2⟩ := h
  have h0 : Mt F (fun t => ∃ p, g p = some t) Y g := ⟨fun p t e => ⟨(hg.1 p t e).1, ⟨p, e⟩, (hg.1 p t e).2.2⟩, hg.2⟩
  exact Lg_T (fail_all (S := Em T g) h0 (Lg_occ hg (fun t y => y)) r1 r2) (fun s y => (Classical.em (∃ p, g p = some s)).imp id (fun z => ⟨y, fun p e => z ⟨p, e⟩⟩))
/-- the seats before k are looked at, c of them queued -/
def qI (A B : Nat → Nat → Int32) (g : Nat → Option Nat) (f n k c : Nat) (qs : Nat → Nat) : Prop := fd A B ∧ (∀ j, j < c → B 23 j = nI (qs j)) ∧ (∀ j, j < c → Em (sT f n) g (qs j) ∧ qs j < k) ∧ (∀ i j, i < c → j < c → qs i = qs j → i = j) ∧ (∀ s, Em (sT f n) g s → s < k → ∃ j, j < c ∧ qs j = s) ∧ c + f ≤ k
theorem qI_add {A B : Nat → Nat → Int32} {g : Nat → Option Nat} {f n k c : Nat} {qs : Nat → Nat} (h : qI A B g f n k c qs) (he : Em (sT f n) g k) : qI A (va_up B 23 (upd (B 23) c (nI k))) g f n (k + 1) (c + 1) (nup qs c k) := by
  obtain ⟨h1, h2, h3, h4, h5, h6⟩ := h
  refine ⟨fd_23 h1, fun j hj => ?_, fun j hj => ?_, fun i j hi hj z => ?_, fun s hs hk => ?_, by omega⟩
  · rw [vb_at]
    by_cases y : j = c
    · subst y; rw [upd_at, nup_at]
    · rw [upd_ne y, nup_ne y]; exact h2 j (by omega)
  · by_cases y : j = c
    · subst y; rw [nup_at]; exact ⟨he, by omega⟩
    · rw [nup_ne y]
      obtain ⟨a, b⟩ := h3 j (by omega)
      exact ⟨a, by omega⟩
  · by_cases y : i = c <;> by_cases y' : j = c
    · omega
    · rw [y, nup_at, nup_ne y'] at z
      have := (h3 j (by omega)).2
      omega
    · rw [y', nup_at, nup_ne y] at z
      have := (h3 i (by omega)).2
      omega
    · rw [nup_ne y, nup_ne y'] at z; exact h4 i j (by omega) (by omega) z
  · by_cases y : s = k
    · exact ⟨c, by omega, by rw [nup_at, y]⟩
    · obtain ⟨j, j1, j2⟩ := h5 s hs (by omega)
      exact ⟨j, by omega, by rw [nup_ne (by omega)]; exact j2⟩
theorem qI_n {A B : Nat → Nat → Int32} {g : Nat → Option Nat} {f n k c : Nat} {qs : Nat → Nat} (h : qI A B g f n k c qs) (he : ¬ Em (sT f n) g k) : qI A B g f n (k + 1) c qs := by
  obtain ⟨h1, h2, h3, h4, h5, h6⟩ := h
  refine ⟨h1, h2, fun j hj => ?_, h4, fun s hs hk => ?_, by omega⟩
  · obtain ⟨a, b⟩ := h3 j hj
    exact ⟨a, by omega⟩
  · by_cases y : s = k
    · subst y; exact absurd hs he
    · exact h5 s hs (by omega)
theorem s23_lp {l : Launch} {E : jEnv} {A : Nat → Nat → Int32} {V : Nat → Int32} {O : Nat → Int64} {Q : jO → List jC → Prop} {f n : Nat} {Y : Nat → Prop} {g : Nat → Option Nat} (hV : V 5 = nI n) (hn : n ≤ 12) (hg : Mt (cF A) (sT f n) Y g) (hR : rCY A (sT f n) Y g) (hQ : ∀ B c qs, qI A B g f n n c qs → Q (.inl (some (.int (nI c)))) (hp B V O)) : ∀ (d k : Nat) (B : Nat → Nat → Int32) (c : Nat) (qs : Nat → Nat), k + d = n → qI A B g f n k c qs → GO l E 23 4 [some (.ref 19), some (.int (nI f)), some (.int (nI c)), some (.int (nI k))] [] (hp B V O) 0 0 Q := by
  intro d
  induction d with
  | zero =>
    intro k B c qs hk hI
    have hcf := hI.2.2.2.2.2
    refine R_iload z23_4 rfl ?_
    refine R_aload z23_5 rfl ?_
    refine R_get z23_6 (k := 2) (f := 5) (by decide +kernel) rfl rfl ?_
    refine R_icmp z23_9 (tn := 38) rfl (fun (h9 : ((V 5) : Int32) ≤ (nI k)) => ?_) (fun q => absurd ((show V 5 ≤ nI k by rw [hV, nge (by omega) (by omega)]; omega)) q)
    refine R_iload z23_38 rfl ?_
    exact R_iret z23_39 (Or.inl (by decide +kernel)) ⟨Nat.zero_le _, Nat.zero_le _⟩ (by have e9 : k = n := (by omega); subst e9; exact hQ B c qs hI)
  | succ d ih =>
    intro k B c qs hk hI
    have hcf := hI.2.2.2.2.2
    refine R_iload z23_4 rfl ?_
    refine R_aload z23_5 rfl ?_
    refine R_get z23_6 (k := 2) (f := 5) (by decide +kernel) rfl rfl ?_
    refine R_icmp z23_9 (tn := 38) rfl (fun q => absurd q ((show ¬ V 5 ≤ nI k by rw [hV, nge (by omega) (by omega)]; omega))) (fun (h9 : ¬ ((V 5) : Int32) ≤ (nI k)) => ?_)
    refine R_aload z23_12 rfl ?_
    refine R_get z23_13 (k := 2) (f := 1) (by decide +kernel) rfl rfl ?_
    refine R_iload z23_16 rfl ?_
    refine R_ild z23_17 (n := 12) (f := B 21) (v := (A 21 k)) rfl (nin (by omega) (by decide)) (by rw [ncl (by omega)]; exact congrFun (hI.1 21 (by decide) (by decide)) k) ?_
    refine R_iconst z23_18 (v := (-1)) (by decide) ?_
    refine R_icmp z23_19 (tn := 32) rfl (fun (h19 : ¬ ((A 21 k) : Int32) = (-1)) => ?_) (fun (h19 : ¬ (¬ ((A 21 k) : Int32) = (-1))) => ?_)
    · refine R_iinc z23_32 (v := 1) (loc' := [some (.ref 19), some (.int (nI f)), some (.int (nI c)), some (.int (nI (k + 1)))]) rfl rfl (by decide) (by rw [nI_1]; rfl) ?_
      refine R_goto z23_35 (tn := 4) rfl ?_
      refine ih (k + 1) B c qs (by omega) (qI_n hI (fun z => ?_))
      rcases hR.2 k (by omega) ⟨by omega, by omega⟩ with q | ⟨p, q, _⟩
      · exact h19 q.1
      · exact z.2 p q
    · have hge : ∀ p, ¬ g p = some k := by
        rcases hR.2 k (by omega) ⟨by omega, by omega⟩ with q | ⟨p, q, q2⟩
        · exact q.2
        · exact absurd ((Classical.not_not.mp h19).symm.trans q2).symm (nm1 (by have := (hg.1 p k q).1; omega))
      refine R_aload z23_22 rfl ?_
      refine R_get z23_23 (k := 2) (f := 3) (by decide +kernel) rfl rfl ?_
      refine R_iload z23_26 rfl ?_
      refine R_iload z23_27 rfl ?_
      refine R_ist z23_28 (n := 12) (f := B 23) (h' := hp (va_up B 23 (upd (B 23) c (nI k))) V O) rfl (nin (by omega) (by decide)) (by rw [ncl (by omega)]; rfl) ?_
      refine R_iinc z23_29 (v := 1) (loc' := [some (.ref 19), some (.int (nI f)), some (.int (nI (c + 1))), some (.int (nI k))]) rfl rfl (by decide) (by rw [nI_1]; rfl) ?_
      refine R_iinc z23_32 (v := 1) (loc' := [some (.ref 19), some (.int (nI f)), some (.int (nI (c + 1))), some (.int (nI (k + 1)))]) rfl rfl (by decide) (by rw [nI_1]; rfl) ?_
      refine R_goto z23_35 (tn := 4) rfl ?_
      exact ih (k + 1) _ (c + 1) _ (by omega) (qI_add hI ⟨⟨by omega, by omega⟩, hge⟩)
theorem s23 {l : Launch} {E : jEnv} {A : Nat → Nat → Int32} {V : Nat → Int32} {O : Nat → Int64} {Q : jO → List jC → Prop} {f n : Nat} {Y : Nat → Prop} {g : Nat → Option Nat} (hV : V 5 = nI n) (hn : n ≤ 12) (hg : Mt (cF A) (sT f n) Y g) (hR : rCY A (sT f n) Y g) (hQ : ∀ B c qs, qI A B g f n n c qs → Q (.inl (some (.int (nI c)))) (hp B V O)) (hf : f ≤ n) : GO l E 23 0 [some (.ref 19), some (.int (nI f)), none, none] [] (hp A V O) 0 0 Q := by
  refine R_iconst z23_0 (v := 0) (by decide) ?_
  refine R_istore z23_1 (loc' := [some (.ref 19), some (.int (nI f)), some (.int 0), none]) rfl rfl ?_
  refine R_iload z23_2 rfl ?_
  refine R_istore z23_3 (loc' := [some (.ref 19), some (.int (nI f)), some (.int 0), some (.int (nI f))]) rfl rfl ?_
  exact s23_lp hV hn hg hR hQ (n - f) f A 0 (fun _ => 0) (by omega) ⟨fun _ _ _ => rfl, fun _ h => absurd h (by omega), fun _ h => absurd h (by omega), fun _ _ h => absurd h (by omega), fun s hs hk => absurd hs.1.1 (by omega), by omega⟩
theorem s22b_lp {l : Launch} {E : jEnv} {A : Nat → Nat → Int32} {V : Nat → Int32} {O : Nat → Int64} {Q : jO → List jC → Prop} {c : Nat} {T Y S : Nat → Prop} {g : Nat → Option Nat} {st x : Int32} (hE : ∀ s, S s → T s ∧ ∀ p, ¬ g p = some s) (hT12 : ∀ s, T s → s < 12) (hg : Mt (cF A) T Y g) (hR : rCY A T Y g) (hQ1 : ∀ B g2, fY A B T Y → rCY B T Y g2 → Mt (cF A) T Y g2 → sz g2 20 = sz g 20 + 1 → Q (.inl (some (.int 1))) (hp B V O)) {j t m0 : Nat} {fr0 : Nat → Option Nat} {qs0 : Nat → Nat} (hj : j < m0) (htj : qs0 j = t) (ht12 : t < 12) (hK : ∀ (B : Nat → Nat → Int32) (fr : Nat → Option Nat) (rk ix qs : Nat → Nat) (m : Nat) (sv : Int32), cSt A B Y g S c fr rk ix qs m sv → frLe fr0 fr → (∀ i, i < m0 → qs i = qs0 i) → m0 ≤ m → cRch A Y fr t 20 → GO l E 22 132 [some (.ref 19), some (.int x), some (.int st), some (.int sv), some (.int (nI m)), some (.int (nI j)), some (.int (nI t)), some (.int (nI 20))] [] (hp B V O) 0 0 Q) : ∀ (d k : Nat) (B : Nat → Nat → Int32) (fr : Nat → Option Nat) (rk ix qs : Nat → Nat) (m : Nat) (sv : Int32), k + d = 20 → cSt A B Y g S c fr rk ix qs m sv → frLe fr0 fr → (∀ i, i < m0 → qs i = qs0 i) → m0 ≤ m → cRch A Y fr t k → GO l E 22 38 [some (.ref 19), some (.int x), some (.int st), some (.int sv), some (.int (nI m)), some (.int (nI j)), some (.int (nI t)), some (.int (nI k))] [] (hp B V O) 0 0 Q := by
  intro d
  induction d with
  | zero =>
    intro k B fr rk ix qs m sv hk hS hl hq0 hm0 h2
    refine R_iload z22_38 rfl ?_
    refine R_bipush z22_40 (v := 20) (by decide) ?_
    refine R_icmp z22_42 (tn := 132) rfl (fun (h42 : (20 : Int32) ≤ (nI k)) => ?_) (fun q => absurd ((show (20 : Int32) ≤ nI k by rw [show (20 : Int32) = nI 20 by decide, nge (by omega) (by omega)]; omega)) q)
    have e9 : k = 20 := by omega
    subst e9
    exact hK B fr rk ix qs m sv hS hl hq0 hm0 h2
  | succ d ih =>
    intro k B fr rk ix qs m sv hk hS hl hq0 hm0 h2
    refine R_iload z22_38 rfl ?_
    refine R_bipush z22_40 (v := 20) (by decide) ?_
    refine R_icmp z22_42 (tn := 132) rfl (fun q => absurd q ((show ¬ (20 : Int32) ≤ nI k by rw [show (20 : Int32) = nI 20 by decide, nge (by omega) (by omega)]; omega))) (fun (h42 : ¬ (20 : Int32) ≤ (nI k)) => ?_)
    refine R_aload z22_45 rfl ?_
    refine R_get z22_46 (k := 2) (f := 0) (by decide +kernel) rfl rfl ?_
    refine R_iload z22_49 rfl ?_
    refine R_ild z22_51 (n := 12) (f := B 20) (v := (A 20 t)) rfl (nin ht12 (by decide)) (by rw [ncl (by omega)]; exact congrFun (hS.1 20 (by decide) (by decide)) t) ?_
    refine R_iload z22_52 rfl ?_
    refine R_iconst z22_53 (v := (-1)) (by decide) ?_
    refine R_ixor z22_54 ?_
    refine R_iand z22_55 ?_
    refine R_iload z22_56 rfl ?_
    refine R_cs z22_58 (k := 49) (kind := 4) (by decide +kernel) (by decide) rfl rfl (by decide +kernel) (Nat.le_of_ble_eq_true (by rfl)) rfl ?_
    refine s49 (fun g9 => jBk_ret rfl ⟨rfl, rfl⟩ ?_) (fun g9 => jBk_ret rfl ⟨rfl, rfl⟩ ?_)
    · refine R_if z22_61 (tn := 67) rfl (fun _ => ?_) (fun q => absurd (show ¬ (1 : Int32) = 0 by decide) q)
      have hin : cF A t k ∧ ¬ jbit sv (nI k) := ⟨((jbit_and (by omega)).mp g9).1, (jbit_not (by omega)).mp ((jbit_and (by omega)).mp g9).2⟩
      have hqj : qs j = t := by rw [hq0 j hj, htj]
      have hYk : ¬ Y k := fun y => hin.2 ((hS.2.2.2.2 k (by omega)).mpr (Or.inl y))
      have hfk : fr k = none := Classical.byContradiction (fun y => hin.2 ((hS.2.2.2.2 k (by omega)).mpr (Or.inr y)))
      have hrk0 := hR.1 k (by omega) hYk
      refine R_iload z22_67 rfl ?_
      refine R_iconst z22_68 (v := 1) (by decide) ?_
      refine R_iload z22_69 rfl ?_
      refine R_ishl z22_71 ?_
      refine R_ior z22_72 ?_
      refine R_istore z22_73 (loc' := [some (.ref 19), some (.int x), some (.int st), some (.int (sv ||| (1 <<< ((nI k) &&& 31)))), some (.int (nI m)), some (.int (nI j)), some (.int (nI t)), some (.int (nI k))]) rfl rfl ?_
      refine R_aload z22_74 rfl ?_
      refine R_get z22_75 (k := 2) (f := 4) (by decide +kernel) rfl rfl ?_
      refine R_iload z22_78 rfl ?_
      refine R_iload z22_80 rfl ?_
      refine R_ist z22_82 (n := 20) (f := B 24) (h' := hp (va_up B 24 (upd (B 24) k (nI t))) V O) rfl (nin (by omega) (by decide)) (by rw [ncl (by omega)]; rfl) ?_
      refine R_aload z22_83 rfl ?_
      refine R_get z22_84 (k := 2) (f := 2) (by decide +kernel) rfl rfl ?_
      refine R_iload z22_87 rfl ?_
      refine R_ild z22_89 (n := 20) (f := (va_up B 24 (upd (B 24) k (nI t))) 22) (v := (A 22 k)) rfl (nin (by omega) (by decide)) (by rw [ncl (by omega)]; exact congrFun (hS.1 22 (by decide) (by decide)) k) ?_
      refine R_iconst z22_90 (v := (-1)) (by decide) ?_
      refine R_icmp z22_91 (tn := 102) rfl (fun (h91 : ¬ ((A 22 k) : Int32) = (-1)) => ?_) (fun (h91 : ¬ (¬ ((A 22 k) : Int32) = (-1))) => ?_)
      · obtain ⟨s, egs, hs12, es⟩ : ∃ s, g k = some s ∧ s < 12 ∧ A 22 k = nI s := by
          cases y : g k with
          | none => rw [y] at hrk0; exact absurd hrk0 h91
          | some s => rw [y] at hrk0; exact ⟨s, rfl, hrk0.1, hrk0.2⟩
        have hmlt := SIc_lt hS.2.1 hg hT12 hE hfk (by omega) (j := j) (by omega) (by rw [hqj]; exact hin.1) hYk egs
        refine R_iload z22_102 rfl ?_
        refine R_bipush z22_104 (v := 12) (by decide) ?_
        refine R_icmp z22_106 (tn := 126) rfl (fun q => absurd q ((show ¬ (12 : Int32) ≤ nI m by rw [show (12 : Int32) = nI 12 by decide, nge (by omega) (by omega)]; omega))) (fun (h106 : ¬ (12 : Int32) ≤ (nI m)) => ?_)
        refine R_aload z22_109 rfl ?_
        refine R_get z22_110 (k := 2) (f := 3) (by decide +kernel) rfl rfl ?_
        refine R_iload z22_113 rfl ?_
        refine R_aload z22_115 rfl ?_
        refine R_get z22_116 (k := 2) (f := 2) (by decide +kernel) rfl rfl ?_
        refine R_iload z22_119 rfl ?_
        refine R_ild z22_121 (n := 20) (f := (va_up B 24 (upd (B 24) k (nI t))) 22) (v := (nI s)) rfl (nin (by omega) (by decide)) (by rw [ncl (by omega)]; exact (congrFun (hS.1 22 (by decide) (by decide)) k).trans es) ?_
        refine R_ist z22_122 (n := 12) (f := (va_up B 24 (upd (B 24) k (nI t))) 23) (h' := hp (va_up (va_up B 24 (upd (B 24) k (nI t))) 23 (upd (B 23) m (nI s))) V O) rfl (nin hmlt (by decide)) (by rw [ncl (by omega)]; rfl) ?_
        refine R_iinc z22_123 (v := 1) (loc' := [some (.ref 19), some (.int x), some (.int st), some (.int (sv ||| (1 <<< ((nI k) &&& 31)))), some (.int (nI (m + 1))), some (.int (nI j)), some (.int (nI t)), some (.int (nI k))]) rfl rfl (by decide) (by rw [nI_1]; rfl) ?_
        refine R_iinc z22_126 (v := 1) (loc' := [some (.ref 19), some (.int x), some (.int st), some (.int (sv ||| (1 <<< ((nI k) &&& 31)))), some (.int (nI (m + 1))), some (.int (nI j)), some (.int (nI t)), some (.int (nI (k + 1)))]) rfl rfl (by decide) (by rw [nI_1]; rfl) ?_
        refine R_goto z22_129 (tn := 38) rfl ?_
        have hA := cSt_add hS hfk (by omega) (j := j) (by omega) (by rw [hqj]; exact hin.1) hYk egs
        rw [hqj] at hA
        exact ih (k + 1) _ _ _ _ _ (m + 1) _ (by omega) hA (fun p hp => frLe_g p (hl p hp)) (fun i hi => by rw [nup_ne (by omega)]; exact hq0 i hi) (by omega) (cRch_g h2)
      · have hgk : g k = none := (rO_lt hrk0).mp (by rw [Classical.not_not.mp h91]; decide)
        have hCk := SIc_free hS.2.1 hg hT12 hE hfk (by omega) (j := j) (by omega) (by rw [hqj]; exact hin.1) hYk
        rw [hqj] at hCk
        have hm12 := SIc_m hS.2.1 hg hT12 hE
        refine R_aload z22_94 rfl ?_
        refine R_iload z22_95 rfl ?_
        refine R_cv z22_97 (k := 24) (by decide +kernel) rfl rfl (by decide +kernel) (Nat.le_of_ble_eq_true (by rfl)) rfl ⟨rfl, trivial⟩ ?_
        refine s24 (A := (va_up B 24 (upd (B 24) k (nI t)))) hCk (fun s y => (hE s y).1) hT12 (f24_up hS.2.2.2.1) (fun B2 g2 w1 w2 w3 w4 => jBk_ret rfl ⟨rfl, rfl⟩ ?_) hg (rCY_fd hR (fd_24 hS.1)) (fun s y => (hE s y).2) (by rw [gup_at]; simp) hgk (by rw [nup_at]; omega)
        refine R_iconst z22_100 (v := 1) (by decide) ?_
        exact R_iret z22_101 (Or.inr (by decide)) ⟨Nat.zero_le _, Nat.zero_le _⟩ (hQ1 B2 g2 (fd_Y (fd_24 hS.1) w1) w2 w3 w4)
    · refine R_if z22_61 (tn := 67) rfl (fun q => absurd (show ¬ (0 : Int32) = 0 from q) (by decide)) (fun _ => ?_)
      refine R_goto z22_64 (tn := 126) rfl ?_
      refine R_iinc z22_126 (v := 1) (loc' := [some (.ref 19), some (.int x), some (.int st), some (.int sv), some (.int (nI m)), some (.int (nI j)), some (.int (nI t)), some (.int (nI (k + 1)))]) rfl rfl (by decide) (by rw [nI_1]; rfl) ?_
      refine R_goto z22_129 (tn := 38) rfl ?_
      refine ih (k + 1) B fr rk ix qs m sv (by omega) hS hl hq0 hm0 (cRch_n h2 (fun y1 y2 y3 => g9 ((jbit_and (by omega)).mpr ⟨y2, (jbit_not (by omega)).mpr (fun y4 => ?_)⟩)))
      exact ((hS.2.2.2.2 k (by omega)).mp y4).elim y1 (fun y => y y3)
theorem s22a_lp {l : Launch} {E : jEnv} {A : Nat → Nat → Int32} {V : Nat → Int32} {O : Nat → Int64} {Q : jO → List jC → Prop} {c : Nat} {T Y S : Nat → Prop} {g : Nat → Option Nat} {st x : Int32} (hE : ∀ s, S s → T s ∧ ∀ p, ¬ g p = some s) (hT12 : ∀ s, T s → s < 12) (hg : Mt (cF A) T Y g) (hR : rCY A T Y g) (hQ1 : ∀ B g2, fY A B T Y → rCY B T Y g2 → Mt (cF A) T Y g2 → sz g2 20 = sz g 20 + 1 → Q (.inl (some (.int 1))) (hp B V O)) (hQ0 : ∀ B, fd A B → cCl (cF A) Y g S → Q (.inl (some (.int 0))) (hp B V O)) : ∀ (d k : Nat) (B : Nat → Nat → Int32) (fr : Nat → Option Nat) (rk ix qs : Nat → Nat) (m : Nat) (sv : Int32), k + d = 12 → cSt A B Y g S c fr rk ix qs m sv → k ≤ m → (∀ j, j < k → cRch A Y fr (qs j) 20) → GO l E 22 12 [some (.ref 19), some (.int x), some (.int st), some (.int sv), some (.int (nI m)), some (.int (nI k)), none, none] [] (hp B V O) 0 0 Q := by
  intro d
  induction d with
  | zero =>
    intro k B fr rk ix qs m sv hk hS hkm h2
    have hm12 := SIc_m hS.2.1 hg hT12 hE
    refine R_iload z22_12 rfl ?_
    refine R_iload z22_14 rfl ?_
    refine R_icmp z22_16 (tn := 138) rfl (fun (h16 : ((nI m) : Int32) ≤ (nI k)) => ?_) (fun q => absurd ((show nI m ≤ nI k by rw [nge (by omega) (by omega)]; omega)) q)
    refine R_iconst z22_138 (v := 0) (by decide) ?_
    exact R_iret z22_139 (Or.inr (by decide)) ⟨Nat.zero_le _, Nat.zero_le _⟩ (hQ0 B hS.1 (cCl_end hS (fun j hj => h2 j (by omega))))
  | succ d ih =>
    intro k B fr rk ix qs m sv hk hS hkm h2
    have hm12 := SIc_m hS.2.1 hg hT12 hE
    refine R_iload z22_12 rfl ?_
    refine R_iload z22_14 rfl ?_
    refine R_icmp z22_16 (tn := 138) rfl (fun (h16 : ((nI m) : Int32) ≤ (nI k)) => ?_) (fun (h16 : ¬ ((nI m) : Int32) ≤ (nI k)) => ?_)
    · refine R_iconst z22_138 (v := 0) (by decide) ?_
      exact R_iret z22_139 (Or.inr (by decide)) ⟨Nat.zero_le _, Nat.zero_le _⟩ (hQ0 B hS.1 (cCl_end hS (fun j hj => h2 j (by rw [nge (by omega) (by omega)] at h16; omega))))
    · refine R_iload z22_19 rfl ?_
      refine R_bipush z22_21 (v := 12) (by decide) ?_
      refine R_icmp z22_23 (tn := 138) rfl (fun q => absurd q ((show ¬ (12 : Int32) ≤ nI k by rw [show (12 : Int32) = nI 12 by decide, nge (by omega) (by omega)]; omega))) (fun (h23 : ¬ (12 : Int32) ≤ (nI k)) => ?_)
      have hk2 : k < m := by rw [nge (by omega) (by omega)] at h16; omega
      refine R_aload z22_26 rfl ?_
      refine R_get z22_27 (k := 2) (f := 3) (by decide +kernel) rfl rfl ?_
      refine R_iload z22_30 rfl ?_
      refine R_ild z22_32 (n := 12) (f := B 23) (v := (nI (qs k))) rfl (nin (by omega) (by decide)) (by rw [ncl (by omega)]; exact hS.2.2.1 k hk2) ?_
      refine R_istore z22_33 (loc' := [some (.ref 19), some (.int x), some (.int st), some (.int sv), some (.int (nI m)), some (.int (nI k)), some (.int (nI (qs k))), none]) rfl rfl ?_
      refine R_iconst z22_35 (v := 0) (by decide) ?_
      refine R_istore z22_36 (loc' := [some (.ref 19), some (.int x), some (.int st), some (.int sv), some (.int (nI m)), some (.int (nI k)), some (.int (nI (qs k))), some (.int 0)]) rfl rfl ?_
      refine s22b_lp (st := st) hE hT12 hg hR hQ1 (fr0 := fr) (qs0 := qs) (m0 := m) (j := k) hk2 rfl (SIc_s hS.2.1 hg hT12 hE hk2) ?_ 20 0 B fr rk ix qs m sv (by omega) hS (fun _ y => y) (fun _ _ => rfl) (Nat.le_refl _) (fun q hq => absurd hq (by omega))
      intro B3 fr3 rk3 ix3 qs3 m3 sv3 hS3 hl3 hq3 hm3 h23
      refine R_iinc z22_132 (v := 1) (loc' := [some (.ref 19), some (.int x), some (.int st), some (.int sv3), some (.int (nI m3)), some (.int (nI (k + 1))), some (.int (nI (qs k))), some (.int (nI 20))]) rfl rfl (by decide) (by rw [nI_1]; rfl) ?_
      refine R_goto z22_135 (tn := 12) rfl ?_
      refine GO_drop 6 (GO_drop 7 (ih (k + 1) B3 fr3 rk3 ix3 qs3 m3 sv3 (by omega) hS3 (by omega) (fun j hj => ?_)))
      by_cases y : j = k
      · subst y; rw [hq3 j hk2]; exact h23
      · rw [hq3 j (by omega)]; exact cRch_le (h2 j (by omega)) hl3
theorem s22 {l : Launch} {E : jEnv} {A : Nat → Nat → Int32} {V : Nat → Int32} {O : Nat → Int64} {Q : jO → List jC → Prop} {f n : Nat} {Y : Nat → Prop} {g : Nat → Option Nat} {st : Int32} (hV : V 5 = nI n) (hn : n ≤ 12) (hf : f ≤ n) (hst : ∀ p, p < 20 → (jbit st (nI p) ↔ Y p)) (hg : Mt (cF A) (sT f n) Y g) (hR : rCY A (sT f n) Y g) (hQ1 : ∀ B g2, fY A B (sT f n) Y → rCY B (sT f n) Y g2 → Mt (cF A) (sT f n) Y g2 → sz g2 20 = sz g 20 + 1 → Q (.inl (some (.int 1))) (hp B V O)) (hQ0 : ∀ B, fd A B → Lg (cF A) (sT f n) Y (sz g 20) → Q (.inl (some (.int 0))) (hp B V O)) : GO l E 22 0 [some (.ref 19), some (.int (nI f)), some (.int st), none, none, none, none, none] [] (hp A V O) 0 0 Q := by
  refine R_iload z22_0 rfl ?_
  refine R_istore z22_1 (loc' := [some (.ref 19), some (.int (nI f)), some (.int st), some (.int st), none, none, none, none]) rfl rfl ?_
  refine R_aload z22_2 rfl ?_
  refine R_iload z22_3 rfl ?_
  refine R_cv z22_4 (k := 23) (by decide +kernel) rfl rfl (by decide +kernel) (Nat.le_of_ble_eq_true (by rfl)) rfl ⟨rfl, trivial⟩ ?_
  refine s23 hV hn hg hR (fun B c qs hI => jBk_ret rfl ⟨rfl, rfl⟩ ?_) hf
  refine R_istore z22_7 (loc' := [some (.ref 19), some (.int (nI f)), some (.int st), some (.int st), some (.int (nI c)), none, none, none]) rfl rfl ?_
  refine R_iconst z22_9 (v := 0) (by decide) ?_
  refine R_istore z22_10 (loc' := [some (.ref 19), some (.int (nI f)), some (.int st), some (.int st), some (.int (nI c)), some (.int 0), none, none]) rfl rfl ?_
  refine s22a_lp (A := A) (c := c) (S := Em (sT f n) g) (st := st) (x := nI f) (fun _ y => y) (fun s y => by have := y.2; omega) hg hR hQ1 (fun B w1 w2 => hQ0 B w1 (cCl_max hg w2)) 12 0 B (fun _ => none) (fun _ => 0) (fun _ => 0) qs c st (by omega) ⟨hI.1, SIc_0 (fun j hj => (hI.2.2.1 j hj).1) hI.2.2.2.1 (fun s hs => hI.2.2.2.2.1 s hs hs.1.2), hI.2.1, fun _ _ y => (by cases y), fun p hp => ?_⟩ (Nat.zero_le _) (fun j hj => absurd hj (by omega))
  rw [hst p hp]; exact ⟨Or.inl, fun y => y.elim id (fun y => absurd rfl y)⟩

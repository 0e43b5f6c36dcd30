def fd (A B : Nat → Nat → Int32) : Prop := ∀ a, ¬ a = 23 → ¬ a = 24 → B a = A a
theorem fd_23 {A B : Nat → Nat → Int32} {f : Nat → Int32} (h : fd A B) : fd A (va_up B 23 f) := fun a h1 h2 => by rw [vb_ne h1]; exact h a h1 h2
theorem fd_24 {A B : Nat → Nat → Int32} {f : Nat → Int32} (h : fd A B) : fd A (va_up B 24 f) := fun a h1 h2 => by rw [vb_ne h2]; exact h a h1 h2
theorem fd_Y {A B C : Nat → Nat → Int32} {T Y : Nat → Prop} (h : fd A B) (h' : fY B C T Y) : fY A C T Y := ⟨fun a h1 h2 h3 h4 => by rw [h'.1 a h1 h2 h3 h4, h a h3 h4], fun p hp => by rw [h'.2.1 p hp, h 22 (by decide) (by decide)], fun s hs => by rw [h'.2.2 s hs, h 21 (by decide) (by decide)]⟩
theorem fd_fY {A B : Nat → Nat → Int32} {T Y : Nat → Prop} (h : fd A B) : fY A B T Y := fd_Y h fY_r
theorem rCY_fd {A B : Nat → Nat → Int32} {T Y : Nat → Prop} {g : Nat → Option Nat} (h : rCY A T Y g) (hB : fd A B) : rCY B T Y g := by
  unfold rCY onC
  rw [hB 21 (by decide) (by decide), hB 22 (by decide) (by decide)]
  exact h
def cSt (A B : Nat → Nat → Int32) (Y : Nat → Prop) (g : Nat → Option Nat) (e : Nat) (fr : Nat → Option Nat) (rk ix qs : Nat → Nat) (m : Nat) (sv : Int32) : Prop := fd A B ∧ SIc (cF A) Y g e fr rk ix qs m ∧ (∀ j, j < m → B 23 j = nI (qs j)) ∧ (∀ p t, fr p = some t → B 24 p = nI t) ∧ ∀ p, p < 20 → (jbit sv (nI p) ↔ (Y p ∨ ¬ fr p = none))
theorem f24_up {B : Nat → Nat → Int32} {fr : Nat → Option Nat} {q t : Nat} (h : ∀ p t, fr p = some t → B 24 p = nI t) : ∀ p t', gup fr q (some t) p = some t' → upd (B 24) q (nI t) p = nI t' := by
  intro p t' e
  by_cases z : p = q
  · subst z; rw [gup_at] at e; cases e; exact upd_at
  · rw [gup_ne z] at e; rw [upd_ne z]; exact h p t' e
theorem cSt_add {A B : Nat → Nat → Int32} {Y : Nat → Prop} {g : Nat → Option Nat} {e q s j : Nat} {fr : Nat → Option Nat} {rk ix qs : Nat → Nat} {m : Nat} {sv : Int32} (h : cSt A B Y g e fr rk ix qs m sv) (hq : fr q = none) (h1 : q < 20) (hj : j < m) (h3 : cF A (qs j) q) (h4 : ¬ Y q) (h5 : g q = some s) : cSt A (va_up (va_up B 24 (upd (B 24) q (nI (qs j)))) 23 (upd (B 23) m (nI s))) Y g e (gup fr q (some (qs j))) (nup rk q j) (nup ix q m) (nup qs m s) (m + 1) (sv ||| (1 : Int32) <<< (nI q &&& 31)) := by
  refine ⟨fd_23 (fd_24 h.1), SIc_add h.2.1 hq h1 hj h3 h4 h5, fun i hi => ?_, ?_, fun p hp => ?_⟩
  · rw [vb_at]
    by_cases z : i = m
    · subst z; rw [upd_at, nup_at]
    · rw [upd_ne z, nup_ne z]; exact h.2.2.1 i (by omega)
  · exact f24_up h.2.2.2.1
  · rw [jbit_or (by omega), jbit_one (by omega) (by omega), h.2.2.2.2 p hp]
    by_cases z : p = q
    · subst z; rw [gup_at]; simp
    · rw [gup_ne z]
      exact ⟨fun y => y.elim id (fun y => absurd y.symm z), Or.inl⟩
def cRch (A : Nat → Nat → Int32) (Y : Nat → Prop) (fr : Nat → Option Nat) (t k : Nat) : Prop := ∀ q, q < k → ¬ Y q → cF A t q → ¬ fr q = none
theorem cRch_n {A : Nat → Nat → Int32} {Y : Nat → Prop} {fr : Nat → Option Nat} {t k : Nat} (h : cRch A Y fr t k) (hk : ¬ Y k → cF A t k → ¬ fr k = none) : cRch A Y fr t (k + 1) := fun q hq => by
  by_cases z : q = k
  · subst z; exact hk
  · exact h q (by omega)
theorem cRch_le {A : Nat → Nat → Int32} {Y : Nat → Prop} {fr fr' : Nat → Option Nat} {t k : Nat} (h : cRch A Y fr t k) (hl : frLe fr fr') : cRch A Y fr' t k := fun q h1 h2 h3 => hl q (h q h1 h2 h3)
theorem cRch_g {A : Nat → Nat → Int32} {Y : Nat → Prop} {fr : Nat → Option Nat} {t u k : Nat} (h : cRch A Y fr t k) : cRch A Y (gup fr k (some u)) t (k + 1) := cRch_n (cRch_le h frLe_g) (fun _ _ => by rw [gup_at]; simp)
def cCl (F : Nat → Nat → Prop) (Y : Nat → Prop) (g : Nat → Option Nat) (e : Nat) : Prop := ∃ R : Nat → Prop, (∀ p, p < 20 → ¬ Y p → F e p → R p) ∧ ∀ p, R p → ∃ t, g p = some t ∧ ∀ q, q < 20 → ¬ Y q → F t q → R q
theorem cCl_end {A B : Nat → Nat → Int32} {Y : Nat → Prop} {g : Nat → Option Nat} {e : Nat} {fr : Nat → Option Nat} {rk ix qs : Nat → Nat} {m : Nat} {sv : Int32} (h : cSt A B Y g e fr rk ix qs m sv) (h2 : ∀ j, j < m → cRch A Y fr (qs j) 20) : cCl (cF A) Y g e := by
  refine ⟨fun p => ¬ fr p = none, fun p hp hY hF => ?_, fun p hp => ?_⟩
  · have := h2 0 h.2.1.2.2.1
    rw [h.2.1.2.1] at this
    exact this p hp hY hF
  · obtain ⟨_, b, c⟩ := h.2.1.2.2.2.2 p hp
    exact ⟨_, c, h2 _ b⟩
theorem s23b_lp {l : Launch} {E : jEnv} {A : Nat → Nat → Int32} {V : Nat → Int32} {O : Nat → Int64} {Q : jO → List jC → Prop} {e : Nat} {T Y : Nat → Prop} {g : Nat → Option Nat} {st : Int32} (he : e < 12) (hTe : T e) (hT12 : ∀ s, T s → s < 12) (hg : Mt (cF A) T Y g) (hR : rCY A T Y g) (hge : ∀ p, ¬ g p = some e) (hQ1 : ∀ B g2, fY A B T Y → rCY B T Y g2 → Mt (cF A) T Y g2 → sz g2 20 = sz g 20 + 1 → Q (.inl (some (.int 1))) (hp B V O)) {j t m0 : Nat} {fr0 : Nat → Option Nat} {qs0 : Nat → Nat} (hj : j < m0) (htj : qs0 j = t) (ht12 : t < 12) (hK : ∀ (B : Nat → Nat → Int32) (fr : Nat → Option Nat) (rk ix qs : Nat → Nat) (m : Nat) (sv : Int32), cSt A B Y g e fr rk ix qs m sv → frLe fr0 fr → (∀ i, i < m0 → qs i = qs0 i) → m0 ≤ m → cRch A Y fr t 20 → GO l E 23 135 [some (.ref 19), some (.int (nI e)), some (.int st), some (.int sv), some (.int (nI m)), some (.int (nI j)), some (.int (nI t)), some (.int (nI 20))] [] (hp B V O) 0 0 Q) : ∀ (d k : Nat) (B : Nat → Nat → Int32) (fr : Nat → Option Nat) (rk ix qs : Nat → Nat) (m : Nat) (sv : Int32), k + d = 20 → cSt A B Y g e fr rk ix qs m sv → frLe fr0 fr → (∀ i, i < m0 → qs i = qs0 i) → m0 ≤ m → cRch A Y fr t k → GO l E 23 41 [some (.ref 19), some (.int (nI e)), some (.int st), some (.int sv), some (.int (nI m)), some (.int (nI j)), some (.int (nI t)), some (.int (nI k))] [] (hp B V O) 0 0 Q := by
  intro d
  induction d with
  | zero =>
    intro k B fr rk ix qs m sv hk hS hl hq0 hm0 h2
    refine R_iload z23_41 rfl ?_
    refine R_bipush z23_43 (v := 20) (by decide) ?_
    refine R_icmp z23_45 (tn := 135) rfl (fun (h45 : (20 : Int32) ≤ (nI k)) => ?_) (fun q => absurd ((show (20 : Int32) ≤ nI k by rw [show (20 : Int32) = nI 20 by decide, nge (by omega) (by omega)]; omega)) q)
    have e9 : k = 20 := by omega
    subst e9
    exact hK B fr rk ix qs m sv hS hl hq0 hm0 h2
  | succ d ih =>
    intro k B fr rk ix qs m sv hk hS hl hq0 hm0 h2
    refine R_iload z23_41 rfl ?_
    refine R_bipush z23_43 (v := 20) (by decide) ?_
    refine R_icmp z23_45 (tn := 135) rfl (fun q => absurd q ((show ¬ (20 : Int32) ≤ nI k by rw [show (20 : Int32) = nI 20 by decide, nge (by omega) (by omega)]; omega))) (fun (h45 : ¬ (20 : Int32) ≤ (nI k)) => ?_)
    refine R_aload z23_48 rfl ?_
    refine R_get z23_49 (k := 2) (f := 0) (by decide +kernel) rfl rfl ?_
    refine R_iload z23_52 rfl ?_
    refine R_ild z23_54 (n := 12) (f := B 20) (v := (A 20 t)) rfl (nin ht12 (by decide)) (by rw [ncl (by omega)]; exact congrFun (hS.1 20 (by decide) (by decide)) t) ?_
    refine R_iload z23_55 rfl ?_
    refine R_iconst z23_56 (v := (-1)) (by decide) ?_
    refine R_ixor z23_57 ?_
    refine R_iand z23_58 ?_
    refine R_iload z23_59 rfl ?_
    refine R_cs z23_61 (k := 49) (kind := 4) (by decide +kernel) (by decide) rfl rfl (by decide +kernel) (Nat.le_of_ble_eq_true (by rfl)) rfl ?_
    refine s49 (fun g9 => jBk_ret rfl ⟨rfl, rfl⟩ ?_) (fun g9 => jBk_ret rfl ⟨rfl, rfl⟩ ?_)
    · refine R_if z23_64 (tn := 70) rfl (fun _ => ?_) (fun q => absurd (show ¬ (1 : Int32) = 0 by decide) q)
      have hin : cF A t k ∧ ¬ jbit sv (nI k) := ⟨((jbit_and (by omega)).mp g9).1, (jbit_not (by omega)).mp ((jbit_and (by omega)).mp g9).2⟩
      have hqj : qs j = t := by rw [hq0 j hj, htj]
      have hYk : ¬ Y k := fun y => hin.2 ((hS.2.2.2.2 k (by omega)).mpr (Or.inl y))
      have hfk : fr k = none := Classical.byContradiction (fun y => hin.2 ((hS.2.2.2.2 k (by omega)).mpr (Or.inr y)))
      have hrk0 := hR.1 k (by omega) hYk
      refine R_iload z23_70 rfl ?_
      refine R_iconst z23_71 (v := 1) (by decide) ?_
      refine R_iload z23_72 rfl ?_
      refine R_ishl z23_74 ?_
      refine R_ior z23_75 ?_
      refine R_istore z23_76 (loc' := [some (.ref 19), some (.int (nI e)), some (.int st), some (.int (sv ||| (1 <<< ((nI k) &&& 31)))), some (.int (nI m)), some (.int (nI j)), some (.int (nI t)), some (.int (nI k))]) rfl rfl ?_
      refine R_aload z23_77 rfl ?_
      refine R_get z23_78 (k := 2) (f := 4) (by decide +kernel) rfl rfl ?_
      refine R_iload z23_81 rfl ?_
      refine R_iload z23_83 rfl ?_
      refine R_ist z23_85 (n := 20) (f := B 24) (h' := hp (va_up B 24 (upd (B 24) k (nI t))) V O) rfl (nin (by omega) (by decide)) (by rw [ncl (by omega)]; rfl) ?_
      refine R_aload z23_86 rfl ?_
      refine R_get z23_87 (k := 2) (f := 2) (by decide +kernel) rfl rfl ?_
      refine R_iload z23_90 rfl ?_
      refine R_ild z23_92 (n := 20) (f := (va_up B 24 (upd (B 24) k (nI t))) 22) (v := (A 22 k)) rfl (nin (by omega) (by decide)) (by rw [ncl (by omega)]; exact congrFun (hS.1 22 (by decide) (by decide)) k) ?_
      refine R_iconst z23_93 (v := (-1)) (by decide) ?_
      refine R_icmp z23_94 (tn := 105) rfl (fun (h94 : ¬ ((A 22 k) : Int32) = (-1)) => ?_) (fun (h94 : ¬ (¬ ((A 22 k) : Int32) = (-1))) => ?_)
      · obtain ⟨s, egs, hs12, es⟩ : ∃ s, g k = some s ∧ s < 12 ∧ A 22 k = nI s := by
          cases y : g k with
          | none => rw [y] at hrk0; exact absurd hrk0 h94
          | some s => rw [y] at hrk0; exact ⟨s, rfl, hrk0.1, hrk0.2⟩
        have hmlt := SIc_lt hS.2.1 hg hT12 he hge hfk (by omega) (j := j) (by omega) (by rw [hqj]; exact hin.1) hYk egs
        refine R_iload z23_105 rfl ?_
        refine R_bipush z23_107 (v := 12) (by decide) ?_
        refine R_icmp z23_109 (tn := 129) rfl (fun q => absurd q ((show ¬ (12 : Int32) ≤ nI m by rw [show (12 : Int32) = nI 12 by decide, nge (by omega) (by omega)]; omega))) (fun (h109 : ¬ (12 : Int32) ≤ (nI m)) => ?_)
        refine R_aload z23_112 rfl ?_
        refine R_get z23_113 (k := 2) (f := 3) (by decide +kernel) rfl rfl ?_
        refine R_iload z23_116 rfl ?_
        refine R_aload z23_118 rfl ?_
        refine R_get z23_119 (k := 2) (f := 2) (by decide +kernel) rfl rfl ?_
        refine R_iload z23_122 rfl ?_
        refine R_ild z23_124 (n := 20) (f := (va_up B 24 (upd (B 24) k (nI t))) 22) (v := (nI s)) rfl (nin (by omega) (by decide)) (by rw [ncl (by omega)]; exact (congrFun (hS.1 22 (by decide) (by decide)) k).trans es) ?_
        refine R_ist z23_125 (n := 12) (f := (va_up B 24 (upd (B 24) k (nI t))) 23) (h' := hp (va_up (va_up B 24 (upd (B 24) k (nI t))) 23 (upd (B 23) m (nI s))) V O) rfl (nin hmlt (by decide)) (by rw [ncl (by omega)]; rfl) ?_
        refine R_iinc z23_126 (v := 1) (loc' := [some (.ref 19), some (.int (nI e)), some (.int st), some (.int (sv ||| (1 <<< ((nI k) &&& 31)))), some (.int (nI (m + 1))), some (.int (nI j)), some (.int (nI t)), some (.int (nI k))]) rfl rfl (by decide) (by rw [nI_1]; rfl) ?_
        refine R_iinc z23_129 (v := 1) (loc' := [some (.ref 19), some (.int (nI e)), some (.int st), some (.int (sv ||| (1 <<< ((nI k) &&& 31)))), some (.int (nI (m + 1))), some (.int (nI j)), some (.int (nI t)), some (.int (nI (k + 1)))]) rfl rfl (by decide) (by rw [nI_1]; rfl) ?_
        refine R_goto z23_132 (tn := 41) rfl ?_
        have hA := cSt_add hS hfk (by omega) (j := j) (by omega) (by rw [hqj]; exact hin.1) hYk egs
        rw [hqj] at hA
        exact ih (k + 1) _ _ _ _ _ (m + 1) _ (by omega) hA (fun p hp => frLe_g p (hl p hp)) (fun i hi => by rw [nup_ne (by omega)]; exact hq0 i hi) (by omega) (cRch_g h2)
      · have hgk : g k = none := (rO_lt hrk0).mp (by rw [Classical.not_not.mp h94]; decide)
        have hCk := SIc_free hS.2.1 hg hT12 he hfk (by omega) (j := j) (by omega) (by rw [hqj]; exact hin.1) hYk
        rw [hqj] at hCk
        have hm12 := SIc_m hS.2.1 hg hT12 he hge
        refine R_aload z23_97 rfl ?_
        refine R_iload z23_98 rfl ?_
        refine R_cv z23_100 (k := 24) (by decide +kernel) rfl rfl (by decide +kernel) (Nat.le_of_ble_eq_true (by rfl)) rfl ⟨rfl, trivial⟩ ?_
        refine s24 (A := (va_up B 24 (upd (B 24) k (nI t)))) hCk hTe hT12 (f24_up hS.2.2.2.1) (fun B2 g2 w1 w2 w3 w4 => jBk_ret rfl ⟨rfl, rfl⟩ ?_) hg (rCY_fd hR (fd_24 hS.1)) hge (by rw [gup_at]; simp) hgk (by rw [nup_at]; omega)
        refine R_iconst z23_103 (v := 1) (by decide) ?_
        exact R_iret z23_104 (Or.inr (by decide)) ⟨Nat.zero_le _, Nat.zero_le _⟩ (hQ1 B2 g2 (fd_Y (fd_24 hS.1) w1) w2 w3 w4)
    · refine R_if z23_64 (tn := 70) rfl (fun q => absurd (show ¬ (0 : Int32) = 0 from q) (by decide)) (fun _ => ?_)
      refine R_goto z23_67 (tn := 129) rfl ?_
      refine R_iinc z23_129 (v := 1) (loc' := [some (.ref 19), some (.int (nI e)), some (.int st), some (.int sv), some (.int (nI m)), some (.int (nI j)), some (.int (nI t)), some (.int (nI (k + 1)))]) rfl rfl (by decide) (by rw [nI_1]; rfl) ?_
      refine R_goto z23_132 (tn := 41) rfl ?_
      refine ih (k + 1) B fr rk ix qs m sv (by omega) hS hl hq0 hm0 (cRch_n h2 (fun y1 y2 y3 => g9 ((jbit_and (by omega)).mpr ⟨y2, (jbit_not (by omega)).mpr (fun y4 => ?_)⟩)))
      exact ((hS.2.2.2.2 k (by omega)).mp y4).elim y1 (fun y => y y3)
theorem s23a_lp {l : Launch} {E : jEnv} {A : Nat → Nat → Int32} {V : Nat → Int32} {O : Nat → Int64} {Q : jO → List jC → Prop} {e : Nat} {T Y : Nat → Prop} {g : Nat → Option Nat} {st : Int32} (he : e < 12) (hTe : T e) (hT12 : ∀ s, T s → s < 12) (hg : Mt (cF A) T Y g) (hR : rCY A T Y g) (hge : ∀ p, ¬ g p = some e) (hQ1 : ∀ B g2, fY A B T Y → rCY B T Y g2 → Mt (cF A) T Y g2 → sz g2 20 = sz g 20 + 1 → Q (.inl (some (.int 1))) (hp B V O)) (hQ0 : ∀ B, fd A B → cCl (cF A) Y g e → Q (.inl (some (.int 0))) (hp B V O)) : ∀ (d k : Nat) (B : Nat → Nat → Int32) (fr : Nat → Option Nat) (rk ix qs : Nat → Nat) (m : Nat) (sv : Int32), k + d = 12 → cSt A B Y g e fr rk ix qs m sv → k ≤ m → (∀ j, j < k → cRch A Y fr (qs j) 20) → GO l E 23 15 [some (.ref 19), some (.int (nI e)), some (.int st), some (.int sv), some (.int (nI m)), some (.int (nI k)), none, none] [] (hp B V O) 0 0 Q := by
  intro d
  induction d with
  | zero =>
    intro k B fr rk ix qs m sv hk hS hkm h2
    have hm12 := SIc_m hS.2.1 hg hT12 he hge
    refine R_iload z23_15 rfl ?_
    refine R_iload z23_17 rfl ?_
    refine R_icmp z23_19 (tn := 141) rfl (fun (h19 : ((nI m) : Int32) ≤ (nI k)) => ?_) (fun q => absurd ((show nI m ≤ nI k by rw [nge (by omega) (by omega)]; omega)) q)
    refine R_iconst z23_141 (v := 0) (by decide) ?_
    exact R_iret z23_142 (Or.inr (by decide)) ⟨Nat.zero_le _, Nat.zero_le _⟩ (hQ0 B hS.1 (cCl_end hS (fun j hj => h2 j (by omega))))
  | succ d ih =>
    intro k B fr rk ix qs m sv hk hS hkm h2
    have hm12 := SIc_m hS.2.1 hg hT12 he hge
    refine R_iload z23_15 rfl ?_
    refine R_iload z23_17 rfl ?_
    refine R_icmp z23_19 (tn := 141) rfl (fun (h19 : ((nI m) : Int32) ≤ (nI k)) => ?_) (fun (h19 : ¬ ((nI m) : Int32) ≤ (nI k)) => ?_)
    · refine R_iconst z23_141 (v := 0) (by decide) ?_
      exact R_iret z23_142 (Or.inr (by decide)) ⟨Nat.zero_le _, Nat.zero_le _⟩ (hQ0 B hS.1 (cCl_end hS (fun j hj => h2 j (by rw [nge (by omega) (by omega)] at h19; omega))))
    · refine R_iload z23_22 rfl ?_
      refine R_bipush z23_24 (v := 12) (by decide) ?_
      refine R_icmp z23_26 (tn := 141) rfl (fun q => absurd q ((show ¬ (12 : Int32) ≤ nI k by rw [show (12 : Int32) = nI 12 by decide, nge (by omega) (by omega)]; omega))) (fun (h26 : ¬ (12 : Int32) ≤ (nI k)) => ?_)
      have hk2 : k < m := by rw [nge (by omega) (by omega)] at h19; omega
      refine R_aload z23_29 rfl ?_
      refine R_get z23_30 (k := 2) (f := 3) (by decide +kernel) rfl rfl ?_
      refine R_iload z23_33 rfl ?_
      refine R_ild z23_35 (n := 12) (f := B 23) (v := (nI (qs k))) rfl (nin (by omega) (by decide)) (by rw [ncl (by omega)]; exact hS.2.2.1 k hk2) ?_
      refine R_istore z23_36 (loc' := [some (.ref 19), some (.int (nI e)), some (.int st), some (.int sv), some (.int (nI m)), some (.int (nI k)), some (.int (nI (qs k))), none]) rfl rfl ?_
      refine R_iconst z23_38 (v := 0) (by decide) ?_
      refine R_istore z23_39 (loc' := [some (.ref 19), some (.int (nI e)), some (.int st), some (.int sv), some (.int (nI m)), some (.int (nI k)), some (.int (nI (qs k))), some (.int 0)]) rfl rfl ?_
      refine s23b_lp (st := st) he hTe hT12 hg hR hge hQ1 (fr0 := fr) (qs0 := qs) (m0 := m) (j := k) hk2 rfl (SIc_s hS.2.1 hg hT12 he hk2) ?_ 20 0 B fr rk ix qs m sv (by omega) hS (fun _ y => y) (fun _ _ => rfl) (Nat.le_refl _) (fun q hq => absurd hq (by omega))
      intro B3 fr3 rk3 ix3 qs3 m3 sv3 hS3 hl3 hq3 hm3 h23
      refine R_iinc z23_135 (v := 1) (loc' := [some (.ref 19), some (.int (nI e)), some (.int st), some (.int sv3), some (.int (nI m3)), some (.int (nI (k + 1))), some (.int (nI (qs k))), some (.int (nI 20))]) rfl rfl (by decide) (by rw [nI_1]; rfl) ?_
      refine R_goto z23_138 (tn := 15) rfl ?_
      refine GO_drop 6 (GO_drop 7 (ih (k + 1) B3 fr3 rk3 ix3 qs3 m3 sv3 (by omega) hS3 (by omega) (fun j hj => ?_)))
      by_cases y : j = k
      · subst y; rw [hq3 j hk2]; exact h23
      · rw [hq3 j (by omega)]; exact cRch_le (h2 j (by omega)) hl3
theorem s23 {l : Launch} {E : jEnv} {A : Nat → Nat → Int32} {V : Nat → Int32} {O : Nat → Int64} {Q : jO → List jC → Prop} {e : Nat} {T Y : Nat → Prop} {g : Nat → Option Nat} {st : Int32} (he : e < 12) (hTe : T e) (hT12 : ∀ s, T s → s < 12) (hg : Mt (cF A) T Y g) (hR : rCY A T Y g) (hge : ∀ p, ¬ g p = some e) (hQ1 : ∀ B g2, fY A B T Y → rCY B T Y g2 → Mt (cF A) T Y g2 → sz g2 20 = sz g 20 + 1 → Q (.inl (some (.int 1))) (hp B V O)) (hQ0 : ∀ B, fd A B → cCl (cF A) Y g e → Q (.inl (some (.int 0))) (hp B V O)) (hst : ∀ p, p < 20 → (jbit st (nI p) ↔ Y p)) : GO l E 23 0 [some (.ref 19), some (.int (nI e)), some (.int st), none, none, none, none, none] [] (hp A V O) 0 0 Q := by
  refine R_iload z23_0 rfl ?_
  refine R_istore z23_1 (loc' := [some (.ref 19), some (.int (nI e)), some (.int st), some (.int st), none, none, none, none]) rfl rfl ?_
  refine R_iconst z23_2 (v := 1) (by decide) ?_
  refine R_istore z23_3 (loc' := [some (.ref 19), some (.int (nI e)), some (.int st), some (.int st), some (.int 1), none, none, none]) rfl rfl ?_
  refine R_aload z23_5 rfl ?_
  refine R_get z23_6 (k := 2) (f := 3) (by decide +kernel) rfl rfl ?_
  refine R_iconst z23_9 (v := 0) (by decide) ?_
  refine R_iload z23_10 rfl ?_
  refine R_ist z23_11 (n := 12) (f := A 23) (h' := hp (va_up A 23 (upd (A 23) 0 (nI e))) V O) rfl (nin (n := 0) (by decide) (by decide)) (rfl) ?_
  refine R_iconst z23_12 (v := 0) (by decide) ?_
  refine R_istore z23_13 (loc' := [some (.ref 19), some (.int (nI e)), some (.int st), some (.int st), some (.int 1), some (.int 0), none, none]) rfl rfl ?_
  refine s23a_lp (st := st) he hTe hT12 hg hR hge hQ1 hQ0 12 0 _ (fun _ => none) (fun _ => 0) (fun _ => 0) (fun _ => e) 1 st (by omega) ⟨fd_23 (fun _ _ _ => rfl), SIc_0 rfl, fun j hj => ?_, fun _ _ y => (by cases y), fun p hp => ?_⟩ (by omega) (fun j hj => absurd hj (by omega))
  · rw [vb_at, show j = 0 by omega]; exact upd_at
  · rw [hst p hp]; exact ⟨Or.inl, fun y => y.elim id (fun y => absurd rfl y)⟩

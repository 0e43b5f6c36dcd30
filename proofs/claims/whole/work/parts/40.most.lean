def fs (A B : Nat → Nat → Int32) : Prop := ∀ a, ¬ a = 43 → ¬ a = 44 → B a = A a
def f3 (A B : Nat → Nat → Int32) : Prop := ∀ a, ¬ a = 41 → ¬ a = 43 → ¬ a = 44 → B a = A a
theorem fs_43 {A B : Nat → Nat → Int32} {f : Nat → Int32} (h : fs A B) : fs A (va_up B 43 f) := fun a h1 h2 => by rw [vb_ne h1]; exact h a h1 h2
theorem fs_44 {A B : Nat → Nat → Int32} {f : Nat → Int32} (h : fs A B) : fs A (va_up B 44 f) := fun a h1 h2 => by rw [vb_ne h2]; exact h a h1 h2
def rQ (B : Nat → Nat → Int32) (qu : Nat → Nat) (tl : Nat) : Prop := ∀ j, j < tl → B 44 j = nI (qu j)
theorem rF_ge {B : Nat → Nat → Int32} {fr : Nat → Option Nat} {p : Nat} (h : rF B fr) (hp : p < 20) : (0 ≤ B 43 p) ↔ ¬ fr p = none := by
  cases e : fr p with
  | none => rw [(h p hp).1 e]; exact ⟨fun z => absurd z (by decide), fun z => absurd rfl z⟩
  | some t =>
    obtain ⟨h1, h2⟩ := (h p hp).2 t e
    rw [h2]; exact ⟨fun _ z => (by cases z), fun _ => Int32.not_lt.mp (nI_pos (by omega))⟩
theorem mFx_X {A B : Nat → Nat → Int32} {p : Nat} (hp : p < 20) (h : B 40 = A 40) : (0 ≤ mFx B (nI p) 12) ↔ mX A p := by rw [mFx_iff B _ 12 (by omega)]; unfold mX; rw [h]; exact ⟨fun z => ⟨hp, z⟩, fun z => z.2⟩
def MSt (A B : Nat → Nat → Int32) (g : Nat → Option Nat) (e : Nat) (fr : Nat → Option Nat) (rk qu : Nat → Nat) (tl : Nat) : Prop := fs A B ∧ SIm (mF A) (mX A) g e fr rk qu tl ∧ rF B fr ∧ rQ B qu tl
theorem MSt_add {A B : Nat → Nat → Int32} {g : Nat → Option Nat} {e q t : Nat} {fr : Nat → Option Nat} {rk qu : Nat → Nat} {tl : Nat} (h : MSt A B g e fr rk qu tl) (hq : fr q = none) (h1 : q < 20) (h2 : t < 12) (h3 : mF A t q) (h4 : ¬ mX A q) (h5 : t = e ∨ ∃ b, g b = some t ∧ ¬ fr b = none) : MSt A (va_up (va_up B 43 (upd (B 43) q (nI (100 + t)))) 44 (upd (B 44) tl (nI q))) g e (gup fr q (some t)) (nup rk q tl) (nup qu tl q) (tl + 1) := by
  refine ⟨fs_44 (fs_43 h.1), SIm_add h.2.1 hq h1 h2 h3 h4 h5, fun p hp => ?_, fun j hj => ?_⟩
  · rw [vb_ne (by decide), vb_at]
    by_cases z : p = q
    · subst z; rw [upd_at, gup_at]
      exact ⟨fun z => (by cases z), fun t' z => (by cases z; exact ⟨h2, rfl⟩)⟩
    · rw [upd_ne z, gup_ne z]; exact h.2.2.1 p hp
  · rw [vb_at]
    by_cases z : j = tl
    · subst z; rw [upd_at, nup_at]
    · rw [upd_ne z, nup_ne z]; exact h.2.2.2 j (by omega)
def mRch (A : Nat → Nat → Int32) (fr : Nat → Option Nat) (t k : Nat) : Prop := ∀ q, q < k → ¬ mX A q → mF A t q → ¬ fr q = none
theorem mRch_n {A : Nat → Nat → Int32} {fr : Nat → Option Nat} {t k : Nat} (h : mRch A fr t k) (hk : ¬ mX A k → mF A t k → ¬ fr k = none) : mRch A fr t (k + 1) := fun q hq => by
  by_cases z : q = k
  · subst z; exact hk
  · exact h q (by omega)
def frLe (fr fr' : Nat → Option Nat) : Prop := ∀ q, ¬ fr q = none → ¬ fr' q = none
theorem frLe_g {fr : Nat → Option Nat} {q t : Nat} : frLe fr (gup fr q (some t)) := fun p hp => by
  by_cases z : p = q
  · subst z; rw [gup_at]; simp
  · rw [gup_ne z]; exact hp
theorem mRch_le {A : Nat → Nat → Int32} {fr fr' : Nat → Option Nat} {t k : Nat} (h : mRch A fr t k) (hl : frLe fr fr') : mRch A fr' t k := fun q h1 h2 h3 => hl q (h q h1 h2 h3)
theorem mRch_g {A : Nat → Nat → Int32} {fr : Nat → Option Nat} {t k : Nat} (h : mRch A fr t k) : mRch A (gup fr k (some t)) t (k + 1) := mRch_n (mRch_le h frLe_g) (fun _ _ => by rw [gup_at]; simp)
theorem c100 {t : Nat} : (100 : Int32) + nI t = nI (100 + t) := by rw [show (100 : Int32) = nI 100 by decide, nI_add]
theorem s91a_lp {l : Launch} {E : jEnv} {A : Nat → Nat → Int32} {V : Nat → Int32} {O : Nat → Int64} {Q : jO → List jC → Prop} {e : Nat} (hK : ∀ B, fs A B → (∀ p, p < 20 → B 43 p = -1) → GO l E 91 23 [some (.ref 25), some (.int (nI e)), some (.int 0), some (.int (nI 20)), none, none, none] [] (hp B V O) 0 0 Q) : ∀ (d k : Nat) (B : Nat → Nat → Int32), k + d = 20 → fs A B → (∀ p, p < k → B 43 p = -1) → GO l E 91 4 [some (.ref 25), some (.int (nI e)), some (.int 0), some (.int (nI k)), none, none, none] [] (hp B V O) 0 0 Q := by
  intro d
  induction d with
  | zero =>
    intro k B hk hB h1
    refine R_iload z91_4 rfl ?_
    refine R_bipush z91_5 (v := 20) (by decide) ?_
    refine R_icmp z91_7 (tn := 23) rfl (fun (h7 : (20 : Int32) ≤ (nI k)) => ?_) (fun q => absurd ((show (20 : Int32) ≤ nI k by rw [show (20 : Int32) = nI 20 by decide, nge (by omega) (by omega)]; omega)) q)
    have e9 : k = 20 := by omega
    subst e9
    exact hK B hB h1
  | succ d ih =>
    intro k B hk hB h1
    refine R_iload z91_4 rfl ?_
    refine R_bipush z91_5 (v := 20) (by decide) ?_
    refine R_icmp z91_7 (tn := 23) rfl (fun q => absurd q ((show ¬ (20 : Int32) ≤ nI k by rw [show (20 : Int32) = nI 20 by decide, nge (by omega) (by omega)]; omega))) (fun (h7 : ¬ (20 : Int32) ≤ (nI k)) => ?_)
    refine R_aload z91_10 rfl ?_
    refine R_get z91_11 (k := 4) (f := 23) (by decide +kernel) rfl rfl ?_
    refine R_iload z91_14 rfl ?_
    refine R_iconst z91_15 (v := (-1)) (by decide) ?_
    refine R_ist z91_16 (n := 20) (f := B 43) (h' := hp (va_up B 43 (upd (B 43) k (-1))) V O) rfl (nin (by omega) (by decide)) (by rw [ncl (by omega)]; rfl) ?_
    refine R_iinc z91_17 (v := 1) (loc' := [some (.ref 25), some (.int (nI e)), some (.int 0), some (.int (nI (k + 1))), none, none, none]) rfl rfl (by decide) (by rw [nI_1]; rfl) ?_
    refine R_goto z91_20 (tn := 4) rfl ?_
    refine ih (k + 1) _ (by omega) (fs_43 hB) (fun p hp => ?_)
    rw [vb_at]
    by_cases z : p = k
    · subst z; exact upd_at
    · rw [upd_ne z]; exact h1 p (by omega)
theorem s91b_lp {l : Launch} {E : jEnv} {A : Nat → Nat → Int32} {V : Nat → Int32} {O : Nat → Int64} {Q : jO → List jC → Prop} {e : Nat} {g : Nat → Option Nat} (he : e < 12) (hK : ∀ (B : Nat → Nat → Int32) (fr : Nat → Option Nat) (rk qu : Nat → Nat) (tl : Nat), MSt A B g e fr rk qu tl → mRch A fr e 20 → GO l E 91 79 [some (.ref 25), some (.int (nI e)), some (.int (nI tl)), some (.int (nI 20)), none, none, none] [] (hp B V O) 0 0 Q) : ∀ (d k : Nat) (B : Nat → Nat → Int32) (fr : Nat → Option Nat) (rk qu : Nat → Nat) (tl : Nat), k + d = 20 → MSt A B g e fr rk qu tl → (∀ p, k ≤ p → fr p = none) → mRch A fr e k → GO l E 91 25 [some (.ref 25), some (.int (nI e)), some (.int (nI tl)), some (.int (nI k)), none, none, none] [] (hp B V O) 0 0 Q := by
  intro d
  induction d with
  | zero =>
    intro k B fr rk qu tl hk hM h1 h2
    refine R_iload z91_25 rfl ?_
    refine R_bipush z91_26 (v := 20) (by decide) ?_
    refine R_icmp z91_28 (tn := 79) rfl (fun (h28 : (20 : Int32) ≤ (nI k)) => ?_) (fun q => absurd ((show (20 : Int32) ≤ nI k by rw [show (20 : Int32) = nI 20 by decide, nge (by omega) (by omega)]; omega)) q)
    have e9 : k = 20 := by omega
    subst e9
    exact hK B fr rk qu tl hM h2
  | succ d ih =>
    intro k B fr rk qu tl hk hM h1 h2
    refine R_iload z91_25 rfl ?_
    refine R_bipush z91_26 (v := 20) (by decide) ?_
    refine R_icmp z91_28 (tn := 79) rfl (fun q => absurd q ((show ¬ (20 : Int32) ≤ nI k by rw [show (20 : Int32) = nI 20 by decide, nge (by omega) (by omega)]; omega))) (fun (h28 : ¬ (20 : Int32) ≤ (nI k)) => ?_)
    refine R_aload z91_31 rfl ?_
    refine R_get z91_32 (k := 4) (f := 22) (by decide +kernel) rfl rfl ?_
    refine R_bipush z91_35 (v := 20) (by decide) ?_
    refine R_iload z91_37 rfl ?_
    refine R_imul z91_38 ?_
    refine R_iload z91_39 rfl ?_
    refine R_iadd z91_40 ?_
    refine R_top (y := nI (20 * e + k)) (mpair 20 e k _ (by decide)) ?_
    refine R_zld z91_41 (n := 240) (f := B 42) (v := (A 42 (20 * e + k))) rfl (nin (by omega) (by decide)) (by rw [ncl (by omega)]; show B 42 _ = _; rw [hM.1 42 (by decide) (by decide)]) ?_
    refine R_if z91_42 (tn := 73) rfl (fun (h42 : ((A 42 (20 * e + k)) : Int32) = 0) => ?_) (fun (h42 : ¬ ((A 42 (20 * e + k)) : Int32) = 0) => ?_)
    · refine R_iinc z91_73 (v := 1) (loc' := [some (.ref 25), some (.int (nI e)), some (.int (nI tl)), some (.int (nI (k + 1))), none, none, none]) rfl rfl (by decide) (by rw [nI_1]; rfl) ?_
      refine R_goto z91_76 (tn := 25) rfl ?_
      exact ih (k + 1) B fr rk qu tl (by omega) hM (fun p hp => h1 p (by omega)) (mRch_n h2 (fun _ y => absurd h42 y))
    · refine R_aload z91_45 rfl ?_
      refine R_iload z91_46 rfl ?_
      refine R_cv z91_47 (k := 94) (by decide +kernel) rfl rfl (by decide +kernel) (Nat.le_of_ble_eq_true (by rfl)) rfl ⟨rfl, trivial⟩ ?_
      refine s94 (jBk_ret rfl ⟨rfl, rfl⟩ ?_)
      refine R_if z91_50 (tn := 73) rfl (fun (h50 : (0 : Int32) ≤ (mFx B (nI k) 12)) => ?_) (fun (h50 : ¬ (0 : Int32) ≤ (mFx B (nI k) 12)) => ?_)
      · refine R_iinc z91_73 (v := 1) (loc' := [some (.ref 25), some (.int (nI e)), some (.int (nI tl)), some (.int (nI (k + 1))), none, none, none]) rfl rfl (by decide) (by rw [nI_1]; rfl) ?_
        refine R_goto z91_76 (tn := 25) rfl ?_
        exact ih (k + 1) B fr rk qu tl (by omega) hM (fun p hp => h1 p (by omega)) (mRch_n h2 (fun y _ => absurd ((mFx_X (by omega) (hM.1 40 (by decide) (by decide))).mp h50) y))
      · have hXk : ¬ mX A k := fun y => h50 ((mFx_X (by omega) (hM.1 40 (by decide) (by decide))).mpr y)
        have h1k := h1 k (by omega)
        have htl := SIm_lt hM.2.1 h1k (by omega) he h42 hXk (Or.inl rfl)
        refine R_aload z91_53 rfl ?_
        refine R_get z91_54 (k := 4) (f := 23) (by decide +kernel) rfl rfl ?_
        refine R_iload z91_57 rfl ?_
        refine R_bipush z91_58 (v := 100) (by decide) ?_
        refine R_iload z91_60 rfl ?_
        refine R_iadd z91_61 ?_
        refine R_top (y := nI (100 + e)) (c100) ?_
        refine R_ist z91_62 (n := 20) (f := B 43) (h' := hp (va_up B 43 (upd (B 43) k (nI (100 + e)))) V O) rfl (nin (by omega) (by decide)) (by rw [ncl (by omega)]; rfl) ?_
        refine R_aload z91_63 rfl ?_
        refine R_get z91_64 (k := 4) (f := 24) (by decide +kernel) rfl rfl ?_
        refine R_iload z91_67 rfl ?_
        refine R_iload z91_68 rfl ?_
        refine R_ist z91_69 (n := 20) (f := (va_up B 43 (upd (B 43) k (nI (100 + e)))) 44) (h' := hp (va_up (va_up B 43 (upd (B 43) k (nI (100 + e)))) 44 (upd (B 44) tl (nI k))) V O) rfl (nin htl (by decide)) (by rw [ncl (by omega)]; rfl) ?_
        refine R_iinc z91_70 (v := 1) (loc' := [some (.ref 25), some (.int (nI e)), some (.int (nI (tl + 1))), some (.int (nI k)), none, none, none]) rfl rfl (by decide) (by rw [nI_1]; rfl) ?_
        refine R_iinc z91_73 (v := 1) (loc' := [some (.ref 25), some (.int (nI e)), some (.int (nI (tl + 1))), some (.int (nI (k + 1))), none, none, none]) rfl rfl (by decide) (by rw [nI_1]; rfl) ?_
        refine R_goto z91_76 (tn := 25) rfl ?_
        exact ih (k + 1) _ _ _ _ (tl + 1) (by omega) (MSt_add hM h1k (by omega) he h42 hXk (Or.inl rfl)) (fun p hp => by rw [gup_ne (by omega)]; exact h1 p (by omega)) (mRch_g h2)
theorem s91d_lp {l : Launch} {E : jEnv} {A : Nat → Nat → Int32} {V : Nat → Int32} {O : Nat → Int64} {Q : jO → List jC → Prop} {e t b hd tl0 : Nat} {x : Int32} {g fr0 : Nat → Option Nat} {qu0 : Nat → Nat} (ht : t < 12) (hb : g b = some t) (hbr : ¬ fr0 b = none) (hK : ∀ (B : Nat → Nat → Int32) (fr : Nat → Option Nat) (rk qu : Nat → Nat) (tl : Nat), MSt A B g e fr rk qu tl → frLe fr0 fr → (∀ j, j < tl0 → qu j = qu0 j) → tl0 ≤ tl → mRch A fr t 20 → GO l E 91 191 [some (.ref 25), some (.int (nI e)), some (.int (nI tl)), some (.int (nI hd)), some (.int x), some (.int (nI t)), some (.int (nI 20))] [] (hp B V O) 0 0 Q) : ∀ (d k : Nat) (B : Nat → Nat → Int32) (fr : Nat → Option Nat) (rk qu : Nat → Nat) (tl : Nat), k + d = 20 → MSt A B g e fr rk qu tl → frLe fr0 fr → (∀ j, j < tl0 → qu j = qu0 j) → tl0 ≤ tl → mRch A fr t k → GO l E 91 120 [some (.ref 25), some (.int (nI e)), some (.int (nI tl)), some (.int (nI hd)), some (.int x), some (.int (nI t)), some (.int (nI k))] [] (hp B V O) 0 0 Q := by
  intro d
  induction d with
  | zero =>
    intro k B fr rk qu tl hk hM hl hq0 htl0 h2
    refine R_iload z91_120 rfl ?_
    refine R_bipush z91_122 (v := 20) (by decide) ?_
    refine R_icmp z91_124 (tn := 191) rfl (fun (h124 : (20 : Int32) ≤ (nI k)) => ?_) (fun q => absurd ((show (20 : Int32) ≤ nI k by rw [show (20 : Int32) = nI 20 by decide, nge (by omega) (by omega)]; omega)) q)
    have e9 : k = 20 := by omega
    subst e9
    exact hK B fr rk qu tl hM hl hq0 htl0 h2
  | succ d ih =>
    intro k B fr rk qu tl hk hM hl hq0 htl0 h2
    refine R_iload z91_120 rfl ?_
    refine R_bipush z91_122 (v := 20) (by decide) ?_
    refine R_icmp z91_124 (tn := 191) rfl (fun q => absurd q ((show ¬ (20 : Int32) ≤ nI k by rw [show (20 : Int32) = nI 20 by decide, nge (by omega) (by omega)]; omega))) (fun (h124 : ¬ (20 : Int32) ≤ (nI k)) => ?_)
    refine R_aload z91_127 rfl ?_
    refine R_get z91_128 (k := 4) (f := 22) (by decide +kernel) rfl rfl ?_
    refine R_bipush z91_131 (v := 20) (by decide) ?_
    refine R_iload z91_133 rfl ?_
    refine R_imul z91_135 ?_
    refine R_iload z91_136 rfl ?_
    refine R_iadd z91_138 ?_
    refine R_top (y := nI (20 * t + k)) (mpair 20 t k _ (by decide)) ?_
    refine R_zld z91_139 (n := 240) (f := B 42) (v := (A 42 (20 * t + k))) rfl (nin (by omega) (by decide)) (by rw [ncl (by omega)]; show B 42 _ = _; rw [hM.1 42 (by decide) (by decide)]) ?_
    refine R_if z91_140 (tn := 185) rfl (fun (h140 : ((A 42 (20 * t + k)) : Int32) = 0) => ?_) (fun (h140 : ¬ ((A 42 (20 * t + k)) : Int32) = 0) => ?_)
    · refine R_iinc z91_185 (v := 1) (loc' := [some (.ref 25), some (.int (nI e)), some (.int (nI tl)), some (.int (nI hd)), some (.int x), some (.int (nI t)), some (.int (nI (k + 1)))]) rfl rfl (by decide) (by rw [nI_1]; rfl) ?_
      refine R_goto z91_188 (tn := 120) rfl ?_
      exact ih (k + 1) B fr rk qu tl (by omega) hM hl hq0 htl0 (mRch_n h2 (fun _ y => absurd h140 y))
    · refine R_aload z91_143 rfl ?_
      refine R_get z91_144 (k := 4) (f := 23) (by decide +kernel) rfl rfl ?_
      refine R_iload z91_147 rfl ?_
      refine R_ild z91_149 (n := 20) (f := B 43) (v := (B 43 k)) rfl (nin (by omega) (by decide)) (by rw [ncl (by omega)]) ?_
      refine R_if z91_150 (tn := 185) rfl (fun (h150 : (0 : Int32) ≤ (B 43 k)) => ?_) (fun (h150 : ¬ (0 : Int32) ≤ (B 43 k)) => ?_)
      · refine R_iinc z91_185 (v := 1) (loc' := [some (.ref 25), some (.int (nI e)), some (.int (nI tl)), some (.int (nI hd)), some (.int x), some (.int (nI t)), some (.int (nI (k + 1)))]) rfl rfl (by decide) (by rw [nI_1]; rfl) ?_
        refine R_goto z91_188 (tn := 120) rfl ?_
        exact ih (k + 1) B fr rk qu tl (by omega) hM hl hq0 htl0 (mRch_n h2 (fun _ _ => (rF_ge hM.2.2.1 (by omega)).mp h150))
      · refine R_aload z91_153 rfl ?_
        refine R_iload z91_154 rfl ?_
        refine R_cv z91_156 (k := 94) (by decide +kernel) rfl rfl (by decide +kernel) (Nat.le_of_ble_eq_true (by rfl)) rfl ⟨rfl, trivial⟩ ?_
        refine s94 (jBk_ret rfl ⟨rfl, rfl⟩ ?_)
        refine R_if z91_159 (tn := 185) rfl (fun (h159 : (0 : Int32) ≤ (mFx B (nI k) 12)) => ?_) (fun (h159 : ¬ (0 : Int32) ≤ (mFx B (nI k) 12)) => ?_)
        · refine R_iinc z91_185 (v := 1) (loc' := [some (.ref 25), some (.int (nI e)), some (.int (nI tl)), some (.int (nI hd)), some (.int x), some (.int (nI t)), some (.int (nI (k + 1)))]) rfl rfl (by decide) (by rw [nI_1]; rfl) ?_
          refine R_goto z91_188 (tn := 120) rfl ?_
          exact ih (k + 1) B fr rk qu tl (by omega) hM hl hq0 htl0 (mRch_n h2 (fun y _ => absurd ((mFx_X (by omega) (hM.1 40 (by decide) (by decide))).mp h159) y))
        · have hXk : ¬ mX A k := fun y => h159 ((mFx_X (by omega) (hM.1 40 (by decide) (by decide))).mpr y)
          have hfk : fr k = none := Classical.byContradiction (fun y => h150 ((rF_ge hM.2.2.1 (by omega)).mpr y))
          have htl := SIm_lt hM.2.1 hfk (by omega) ht h140 hXk (Or.inr ⟨b, hb, hl b hbr⟩)
          refine R_aload z91_162 rfl ?_
          refine R_get z91_163 (k := 4) (f := 23) (by decide +kernel) rfl rfl ?_
          refine R_iload z91_166 rfl ?_
          refine R_bipush z91_168 (v := 100) (by decide) ?_
          refine R_iload z91_170 rfl ?_
          refine R_iadd z91_172 ?_
          refine R_top (y := nI (100 + t)) (c100) ?_
          refine R_ist z91_173 (n := 20) (f := B 43) (h' := hp (va_up B 43 (upd (B 43) k (nI (100 + t)))) V O) rfl (nin (by omega) (by decide)) (by rw [ncl (by omega)]; rfl) ?_
          refine R_aload z91_174 rfl ?_
          refine R_get z91_175 (k := 4) (f := 24) (by decide +kernel) rfl rfl ?_
          refine R_iload z91_178 rfl ?_
          refine R_iload z91_179 rfl ?_
          refine R_ist z91_181 (n := 20) (f := (va_up B 43 (upd (B 43) k (nI (100 + t)))) 44) (h' := hp (va_up (va_up B 43 (upd (B 43) k (nI (100 + t)))) 44 (upd (B 44) tl (nI k))) V O) rfl (nin htl (by decide)) (by rw [ncl (by omega)]; rfl) ?_
          refine R_iinc z91_182 (v := 1) (loc' := [some (.ref 25), some (.int (nI e)), some (.int (nI (tl + 1))), some (.int (nI hd)), some (.int x), some (.int (nI t)), some (.int (nI k))]) rfl rfl (by decide) (by rw [nI_1]; rfl) ?_
          refine R_iinc z91_185 (v := 1) (loc' := [some (.ref 25), some (.int (nI e)), some (.int (nI (tl + 1))), some (.int (nI hd)), some (.int x), some (.int (nI t)), some (.int (nI (k + 1)))]) rfl rfl (by decide) (by rw [nI_1]; rfl) ?_
          refine R_goto z91_188 (tn := 120) rfl ?_
          exact ih (k + 1) _ _ _ _ (tl + 1) (by omega) (MSt_add hM hfk (by omega) ht h140 hXk (Or.inr ⟨b, hb, hl b hbr⟩)) (fun p hp => frLe_g p (hl p hp)) (fun j hj => by rw [nup_ne (by omega)]; exact hq0 j hj) (by omega) (mRch_g h2)
def mCl (A : Nat → Nat → Int32) (g : Nat → Option Nat) (e : Nat) : Prop := ∃ R : Nat → Prop, (∀ p, p < 20 → ¬ mX A p → mF A e p → R p) ∧ ∀ p, R p → ∃ t, g p = some t ∧ ∀ q, q < 20 → ¬ mX A q → mF A t q → R q
theorem mCl_end {A B : Nat → Nat → Int32} {g : Nat → Option Nat} {e : Nat} {fr : Nat → Option Nat} {rk qu : Nat → Nat} {tl : Nat} (hM : MSt A B g e fr rk qu tl) (h1 : mRch A fr e 20) (h2 : ∀ j, j < tl → ∃ t, g (qu j) = some t ∧ mRch A fr t 20) : mCl A g e := by
  refine ⟨fun p => ¬ fr p = none, h1, fun p hp => ?_⟩
  obtain ⟨a, b⟩ := hM.2.1.2.1 p hp
  have := h2 (rk p) a
  rw [b] at this
  exact this
theorem fs_f3 {A B : Nat → Nat → Int32} (h : fs A B) : f3 A B := fun a _ h2 h3 => h a h2 h3
theorem fs_f1 {A B C : Nat → Nat → Int32} (h : fs A B) (h' : f1 B C) : f3 A C := fun a h1 h2 h3 => by rw [h' a h1, h a h2 h3]
theorem rS_fs {A B : Nat → Nat → Int32} {g : Nat → Option Nat} (h : rS A g) (hB : fs A B) : rS B g := fun p hp => by rw [hB 41 (by decide) (by decide)]; exact h p hp
theorem s91c_lp {l : Launch} {E : jEnv} {A : Nat → Nat → Int32} {V : Nat → Int32} {O : Nat → Int64} {Q : jO → List jC → Prop} {e : Nat} {T : Nat → Prop} {g : Nat → Option Nat} (he : e < 12) (hT : T e) (hR : rS A g) (hg : Mt (mF A) T (mX A) g) (hge : ∀ p, ¬ g p = some e) (hQ1 : ∀ B g2, f3 A B → rS B g2 → Mt (mF A) T (mX A) g2 → sz g2 20 = sz g 20 + 1 → Q (.inl (some (.int 1))) (hp B V O)) (hQ0 : ∀ B, f3 A B → rS B g → mCl A g e → Q (.inl (some (.int 0))) (hp B V O)) : ∀ (d k : Nat) (B : Nat → Nat → Int32) (fr : Nat → Option Nat) (rk qu : Nat → Nat) (tl : Nat), k + d = 20 → MSt A B g e fr rk qu tl → k ≤ tl → mRch A fr e 20 → (∀ j, j < k → ∃ t, g (qu j) = some t ∧ mRch A fr t 20) → GO l E 91 81 [some (.ref 25), some (.int (nI e)), some (.int (nI tl)), some (.int (nI k)), none, none, none] [] (hp B V O) 0 0 Q := by
  intro d
  induction d with
  | zero =>
    intro k B fr rk qu tl hk hM hkt h1 h2
    have htl20 := SIm_tl hM.2.1
    refine R_iload z91_81 rfl ?_
    refine R_iload z91_82 rfl ?_
    refine R_icmp z91_83 (tn := 197) rfl (fun (h83 : ((nI tl) : Int32) ≤ (nI k)) => ?_) (fun (h83 : ¬ ((nI tl) : Int32) ≤ (nI k)) => ?_)
    · refine R_iconst z91_197 (v := 0) (by decide) ?_
      exact R_iret z91_198 (Or.inr (by decide)) ⟨Nat.zero_le _, Nat.zero_le _⟩ (hQ0 B (fs_f3 hM.1) (rS_fs hR hM.1) (mCl_end hM h1 (fun j hj => h2 j (by rw [nge (by omega) (by omega)] at h83; omega))))
    · exact absurd (show nI tl ≤ nI k by rw [nge (by omega) (by omega)]; omega) h83
  | succ d ih =>
    intro k B fr rk qu tl hk hM hkt h1 h2
    have htl20 := SIm_tl hM.2.1
    refine R_iload z91_81 rfl ?_
    refine R_iload z91_82 rfl ?_
    refine R_icmp z91_83 (tn := 197) rfl (fun (h83 : ((nI tl) : Int32) ≤ (nI k)) => ?_) (fun (h83 : ¬ ((nI tl) : Int32) ≤ (nI k)) => ?_)
    · refine R_iconst z91_197 (v := 0) (by decide) ?_
      exact R_iret z91_198 (Or.inr (by decide)) ⟨Nat.zero_le _, Nat.zero_le _⟩ (hQ0 B (fs_f3 hM.1) (rS_fs hR hM.1) (mCl_end hM h1 (fun j hj => h2 j (by rw [nge (by omega) (by omega)] at h83; omega))))
    · have hk2 : k < tl := by rw [nge (by omega) (by omega)] at h83; omega
      obtain ⟨hf, hrk⟩ := hM.2.1.2.2 k hk2
      have hp20 := fr_lt hM.2.1.1 hf
      refine R_aload z91_86 rfl ?_
      refine R_get z91_87 (k := 4) (f := 24) (by decide +kernel) rfl rfl ?_
      refine R_iload z91_90 rfl ?_
      refine R_ild z91_91 (n := 20) (f := B 44) (v := (nI (qu k))) rfl (nin (by omega) (by decide)) (by rw [ncl (by omega)]; exact hM.2.2.2 k hk2) ?_
      refine R_istore z91_92 (loc' := [some (.ref 25), some (.int (nI e)), some (.int (nI tl)), some (.int (nI k)), some (.int (nI (qu k))), none, none]) rfl rfl ?_
      refine R_aload z91_94 rfl ?_
      refine R_get z91_95 (k := 4) (f := 21) (by decide +kernel) rfl rfl ?_
      refine R_iload z91_98 rfl ?_
      refine R_ild z91_100 (n := 20) (f := B 41) (v := (A 41 (qu k))) rfl (nin hp20 (by decide)) (by rw [ncl (by omega)]; show B 41 _ = _; rw [hM.1 41 (by decide) (by decide)]) ?_
      refine R_istore z91_101 (loc' := [some (.ref 25), some (.int (nI e)), some (.int (nI tl)), some (.int (nI k)), some (.int (nI (qu k))), some (.int (A 41 (qu k))), none]) rfl rfl ?_
      refine R_iload z91_103 rfl ?_
      refine R_if z91_105 (tn := 117) rfl (fun (h105 : (0 : Int32) ≤ (A 41 (qu k))) => ?_) (fun (h105 : ¬ (0 : Int32) ≤ (A 41 (qu k))) => ?_)
      · obtain ⟨t, egt, ht, et⟩ : ∃ t, g (qu k) = some t ∧ t < 12 ∧ A 41 (qu k) = nI t := by
          have r := hR (qu k) hp20
          cases y : g (qu k) with
          | none => rw [y] at r; exact absurd h105 (by rw [show A 41 (qu k) = -1 from r]; decide)
          | some t => rw [y] at r; exact ⟨t, rfl, r.1, r.2⟩
        rw [et]
        refine R_iconst z91_117 (v := 0) (by decide) ?_
        refine R_istore z91_118 (loc' := [some (.ref 25), some (.int (nI e)), some (.int (nI tl)), some (.int (nI k)), some (.int (nI (qu k))), some (.int (nI t)), some (.int 0)]) rfl rfl ?_
        refine s91d_lp (fr0 := fr) (qu0 := qu) (tl0 := tl) ht egt hf ?_ 20 0 B fr rk qu tl (by omega) hM (fun _ y => y) (fun _ _ => rfl) (Nat.le_refl _) (fun q hq => absurd hq (by omega))
        intro B3 fr3 rk3 qu3 tl3 hM3 hl3 hq3 htl3 h23
        refine R_iinc z91_191 (v := 1) (loc' := [some (.ref 25), some (.int (nI e)), some (.int (nI tl3)), some (.int (nI (k + 1))), some (.int (nI (qu k))), some (.int (nI t)), some (.int (nI 20))]) rfl rfl (by decide) (by rw [nI_1]; rfl) ?_
        refine R_goto z91_194 (tn := 81) rfl ?_
        refine GO_drop 4 (GO_drop 5 (GO_drop 6 (ih (k + 1) B3 fr3 rk3 qu3 tl3 (by omega) hM3 (by omega) (mRch_le h1 hl3) (fun j hj => ?_))))
        by_cases y : j = k
        · subst y; rw [hq3 j hk2]; exact ⟨t, egt, h23⟩
        · obtain ⟨t2, a1, a2⟩ := h2 j (by omega)
          rw [hq3 j (by omega)]; exact ⟨t2, a1, mRch_le a2 hl3⟩
      · refine R_aload z91_108 rfl ?_
        refine R_iload z91_109 rfl ?_
        refine R_iload z91_111 rfl ?_
        refine R_cv z91_112 (k := 92) (by decide +kernel) rfl rfl (by decide +kernel) (Nat.le_of_ble_eq_true (by rfl)) rfl ⟨rfl, trivial⟩ ?_
        refine s92 (A := B) hM.2.1.1 (fun _ y => y) hT he hM.2.2.1 (fun B2 g2 w1 w2 w3 w4 w5 => jBk_ret rfl ⟨rfl, rfl⟩ ?_) hg (rS_fs hR hM.1) hge hf ((rO_lt (hR _ hp20)).mp (Int32.not_le.mp h105))
        refine R_iconst z91_115 (v := 1) (by decide) ?_
        exact R_iret z91_116 (Or.inr (by decide)) ⟨Nat.zero_le _, Nat.zero_le _⟩ (hQ1 B2 g2 (fs_f1 hM.1 w1) w2 w3 w4)
theorem s91 {l : Launch} {E : jEnv} {A : Nat → Nat → Int32} {V : Nat → Int32} {O : Nat → Int64} {Q : jO → List jC → Prop} {e : Nat} {T : Nat → Prop} {g : Nat → Option Nat} (he : e < 12) (hT : T e) (hR : rS A g) (hg : Mt (mF A) T (mX A) g) (hge : ∀ p, ¬ g p = some e) (hQ1 : ∀ B g2, f3 A B → rS B g2 → Mt (mF A) T (mX A) g2 → sz g2 20 = sz g 20 + 1 → Q (.inl (some (.int 1))) (hp B V O)) (hQ0 : ∀ B, f3 A B → rS B g → mCl A g e → Q (.inl (some (.int 0))) (hp B V O)) : GO l E 91 0 [some (.ref 25), some (.int (nI e)), none, none, none, none, none] [] (hp A V O) 0 0 Q := by
  refine R_iconst z91_0 (v := 0) (by decide) ?_
  refine R_istore z91_1 (loc' := [some (.ref 25), some (.int (nI e)), some (.int 0), none, none, none, none]) rfl rfl ?_
  refine R_iconst z91_2 (v := 0) (by decide) ?_
  refine R_istore z91_3 (loc' := [some (.ref 25), some (.int (nI e)), some (.int 0), some (.int 0), none, none, none]) rfl rfl ?_
  refine s91a_lp ?_ 20 0 A (by omega) (fun _ _ _ => rfl) (fun p hp => absurd hp (by omega))
  intro B hB hn
  refine R_iconst z91_23 (v := 0) (by decide) ?_
  refine R_istore z91_24 (loc' := [some (.ref 25), some (.int (nI e)), some (.int 0), some (.int 0), none, none, none]) rfl rfl ?_
  refine s91b_lp (g := g) he ?_ 20 0 B (fun _ => none) (fun _ => 0) (fun _ => 0) 0 (by omega) ⟨hB, SIm_0, fun p hp => ⟨fun _ => hn p hp, fun _ z => (by cases z)⟩, fun j hj => absurd hj (by omega)⟩ (fun _ _ => rfl) (fun q hq => absurd hq (by omega))
  intro B fr rk qu tl hM h2
  refine R_iconst z91_79 (v := 0) (by decide) ?_
  refine R_istore z91_80 (loc' := [some (.ref 25), some (.int (nI e)), some (.int (nI tl)), some (.int 0), none, none, none]) rfl rfl ?_
  exact s91c_lp he hT hR hg hge hQ1 hQ0 20 0 B fr rk qu tl (by omega) hM (by omega) h2 (fun j hj => absurd hj (by omega))
theorem Lg_0 {F : Nat → Nat → Prop} {T X : Nat → Prop} (h : ∀ s, ¬ T s) : Lg F T X 0 := by
  intro g hg
  have : sz g 20 ≤ sz (fun _ => none) 20 := sz_le 20 (fun p _ z => by
    cases y : g p with
    | none => exact absurd y z
    | some s => exact absurd (hg.1 p s y).2.1 (h s))
  exact this
theorem Mt_T {F : Nat → Nat → Prop} {T T' X : Nat → Prop} {g : Nat → Option Nat} (h : Mt F T X g) (hT : ∀ s, T s → T' s) : Mt F T' X g := ⟨fun p s e => by
  obtain ⟨a1, a2, a3, a4⟩ := h.1 p s e
  exact ⟨a1, hT s a2, a3, a4⟩, h.2⟩
theorem Lg_T {F : Nat → Nat → Prop} {T T' X : Nat → Prop} {k : Nat} (h : Lg F T X k) (hT : ∀ s, T' s → T s) : Lg F T' X k := fun g hg => h g (Mt_T hg hT)
theorem f3_X {A B : Nat → Nat → Int32} (h : f3 A B) : mX B = mX A := by unfold mX; rw [h 40 (by decide) (by decide) (by decide)]
theorem f3_F {A B : Nat → Nat → Int32} (h : f3 A B) : mF B = mF A := by unfold mF; rw [h 42 (by decide) (by decide) (by decide)]
theorem f3_t {A B C : Nat → Nat → Int32} (h : f3 A B) (h' : f3 B C) : f3 A C := fun a h1 h2 h3 => by rw [h' a h1 h2 h3, h a h1 h2 h3]
theorem sT_s {a k : Nat} (h : a ≤ k) : ∀ s, sT a (k + 1) s ↔ (sT a k s ∨ s = k) := fun s => by unfold sT; omega
theorem s95a_lp {l : Launch} {E : jEnv} {A : Nat → Nat → Int32} {V : Nat → Int32} {O : Nat → Int64} {Q : jO → List jC → Prop} {y : Int32} (hK : ∀ B, f3 A B → (∀ p, p < 20 → B 41 p = -1) → GO l E 95 21 [some (.ref 25), some (.int y), some (.int (nI 20)), none] [] (hp B V O) 0 0 Q) : ∀ (d k : Nat) (B : Nat → Nat → Int32), k + d = 20 → f3 A B → (∀ p, p < k → B 41 p = -1) → GO l E 95 2 [some (.ref 25), some (.int y), some (.int (nI k)), none] [] (hp B V O) 0 0 Q := by
  intro d
  induction d with
  | zero =>
    intro k B hk hB h1
    refine R_iload z95_2 rfl ?_
    refine R_bipush z95_3 (v := 20) (by decide) ?_
    refine R_icmp z95_5 (tn := 21) rfl (fun (h5 : (20 : Int32) ≤ (nI k)) => ?_) (fun q => absurd ((show (20 : Int32) ≤ nI k by rw [show (20 : Int32) = nI 20 by decide, nge (by omega) (by omega)]; omega)) q)
    have e9 : k = 20 := by omega
    subst e9
    exact hK B hB h1
  | succ d ih =>
    intro k B hk hB h1
    refine R_iload z95_2 rfl ?_
    refine R_bipush z95_3 (v := 20) (by decide) ?_
    refine R_icmp z95_5 (tn := 21) rfl (fun q => absurd q ((show ¬ (20 : Int32) ≤ nI k by rw [show (20 : Int32) = nI 20 by decide, nge (by omega) (by omega)]; omega))) (fun (h5 : ¬ (20 : Int32) ≤ (nI k)) => ?_)
    refine R_aload z95_8 rfl ?_
    refine R_get z95_9 (k := 4) (f := 21) (by decide +kernel) rfl rfl ?_
    refine R_iload z95_12 rfl ?_
    refine R_iconst z95_13 (v := (-1)) (by decide) ?_
    refine R_ist z95_14 (n := 20) (f := B 41) (h' := hp (va_up B 41 (upd (B 41) k (-1))) V O) rfl (nin (by omega) (by decide)) (by rw [ncl (by omega)]; rfl) ?_
    refine R_iinc z95_15 (v := 1) (loc' := [some (.ref 25), some (.int y), some (.int (nI (k + 1))), none]) rfl rfl (by decide) (by rw [nI_1]; rfl) ?_
    refine R_goto z95_18 (tn := 2) rfl ?_
    refine ih (k + 1) _ (by omega) (fun a z1 z2 z3 => by rw [vb_ne z1]; exact hB a z1 z2 z3) (fun p hp => ?_)
    rw [vb_at]
    by_cases z : p = k
    · subst z; exact upd_at
    · rw [upd_ne z]; exact h1 p (by omega)
theorem sz_20 {g : Nat → Option Nat} : ∀ k, sz g k ≤ k
  | 0 => Nat.le_refl _
  | k + 1 => by
    have := sz_20 (g := g) k
    unfold sz
    split <;> omega
theorem s95b_lp {l : Launch} {E : jEnv} {A : Nat → Nat → Int32} {V : Nat → Int32} {O : Nat → Int64} {Q : jO → List jC → Prop} {a n : Nat} (hV : V 11 = nI n) (hn : n ≤ 12) (hQ : ∀ B k, f3 A B → isMx (mF A) (sT a n) (mX A) k → k ≤ 20 → Q (.inl (some (.int (nI k)))) (hp B V O)) : ∀ (d k : Nat) (B : Nat → Nat → Int32) (g : Nat → Option Nat), k + d = n → a ≤ k → f3 A B → rS B g → Mt (mF A) (sT a k) (mX A) g → Lg (mF A) (sT a k) (mX A) (sz g 20) → GO l E 95 25 [some (.ref 25), some (.int (nI a)), some (.int (nI (sz g 20))), some (.int (nI k))] [] (hp B V O) 0 0 Q := by
  intro d
  induction d with
  | zero =>
    intro k B g hk hak hB hR hg hL
    refine R_iload z95_25 rfl ?_
    refine R_aload z95_26 rfl ?_
    refine R_get z95_27 (k := 4) (f := 18) (by decide +kernel) rfl rfl ?_
    refine R_icmp z95_30 (tn := 55) rfl (fun (h30 : ((V 11) : Int32) ≤ (nI k)) => ?_) (fun q => absurd ((show V 11 ≤ nI k by rw [hV, nge (by omega) (by omega)]; omega)) q)
    refine R_iload z95_55 rfl ?_
    exact R_iret z95_56 (Or.inl (by decide +kernel)) ⟨Nat.zero_le _, Nat.zero_le _⟩ (hQ B _ hB ⟨⟨g, by rw [show n = k by omega]; exact hg, rfl⟩, by rw [show n = k by omega]; exact hL⟩ (sz_20 20))
  | succ d ih =>
    intro k B g hk hak hB hR hg hL
    refine R_iload z95_25 rfl ?_
    refine R_aload z95_26 rfl ?_
    refine R_get z95_27 (k := 4) (f := 18) (by decide +kernel) rfl rfl ?_
    refine R_icmp z95_30 (tn := 55) rfl (fun q => absurd q ((show ¬ V 11 ≤ nI k by rw [hV, nge (by omega) (by omega)]; omega))) (fun (h30 : ¬ ((V 11) : Int32) ≤ (nI k)) => ?_)
    refine R_iload z95_33 rfl ?_
    refine R_aload z95_34 rfl ?_
    refine R_iload z95_35 rfl ?_
    refine R_cv z95_36 (k := 91) (by decide +kernel) rfl rfl (by decide +kernel) (Nat.le_of_ble_eq_true (by rfl)) rfl ⟨rfl, trivial⟩ ?_
    refine s91 (A := B) (T := sT a (k + 1)) (g := g) (by omega) ⟨hak, by omega⟩ hR (by rw [f3_F hB, f3_X hB]; exact Mt_T hg (fun s y => ⟨y.1, by have := y.2; omega⟩)) (fun p y => by have := (hg.1 p k y).2.1.2; omega) (fun B2 g2 w1 w2 w3 w4 => jBk_ret rfl ⟨rfl, rfl⟩ ?_) (fun B2 w1 w2 w3 => jBk_ret rfl ⟨rfl, rfl⟩ ?_)
    · refine R_if z95_39 (tn := 46) rfl (fun q => absurd (show (1 : Int32) = 0 from q) (by decide)) (fun _ => ?_)
      refine R_iconst z95_42 (v := 1) (by decide) ?_
      refine R_goto z95_43 (tn := 47) rfl ?_
      refine R_iadd z95_47 ?_
      refine R_top (y := nI (sz g2 20)) (by rw [w4]; exact nI_1 _) ?_
      refine R_istore z95_48 (loc' := [some (.ref 25), some (.int (nI a)), some (.int (nI (sz g2 20))), some (.int (nI k))]) rfl rfl ?_
      refine R_iinc z95_49 (v := 1) (loc' := [some (.ref 25), some (.int (nI a)), some (.int (nI (sz g2 20))), some (.int (nI (k + 1)))]) rfl rfl (by decide) (by rw [nI_1]; rfl) ?_
      refine R_goto z95_52 (tn := 25) rfl ?_
      rw [f3_F hB, f3_X hB] at w3
      exact ih (k + 1) B2 g2 (by omega) (by omega) (f3_t hB w1) w2 w3 (by rw [w4]; exact Lg_T (succ_max (e := k) hL) (fun s y => (sT_s hak s).mp y))
    · refine R_if z95_39 (tn := 46) rfl (fun _ => ?_) (fun q => absurd (show (0 : Int32) = 0 by decide) q)
      refine R_iconst z95_46 (v := 0) (by decide) ?_
      refine R_iadd z95_47 ?_
      refine R_top (y := nI (sz g 20)) (Int32.add_zero _) ?_
      refine R_istore z95_48 (loc' := [some (.ref 25), some (.int (nI a)), some (.int (nI (sz g 20))), some (.int (nI k))]) rfl rfl ?_
      refine R_iinc z95_49 (v := 1) (loc' := [some (.ref 25), some (.int (nI a)), some (.int (nI (sz g 20))), some (.int (nI (k + 1)))]) rfl rfl (by decide) (by rw [nI_1]; rfl) ?_
      refine R_goto z95_52 (tn := 25) rfl ?_
      obtain ⟨R, r1, r2⟩ := w3
      rw [f3_F hB, f3_X hB] at r1 r2
      exact ih (k + 1) B2 g (by omega) (by omega) (f3_t hB w1) w2 (Mt_T hg (fun s y => ⟨y.1, by have := y.2; omega⟩)) (Lg_T (fail_max hg hL r1 r2) (fun s y => (sT_s hak s).mp y))
theorem s95 {l : Launch} {E : jEnv} {A : Nat → Nat → Int32} {V : Nat → Int32} {O : Nat → Int64} {Q : jO → List jC → Prop} {a n : Nat} (hV : V 11 = nI n) (hn : n ≤ 12) (hQ : ∀ B k, f3 A B → isMx (mF A) (sT a n) (mX A) k → k ≤ 20 → Q (.inl (some (.int (nI k)))) (hp B V O)) (han : a ≤ n) : GO l E 95 0 [some (.ref 25), some (.int (nI a)), none, none] [] (hp A V O) 0 0 Q := by
  refine R_iconst z95_0 (v := 0) (by decide) ?_
  refine R_istore z95_1 (loc' := [some (.ref 25), some (.int (nI a)), some (.int 0), none]) rfl rfl ?_
  refine s95a_lp ?_ 20 0 A (by omega) (fun _ _ _ _ => rfl) (fun p hp => absurd hp (by omega))
  intro B hB hn1
  refine R_iconst z95_21 (v := 0) (by decide) ?_
  refine R_istore z95_22 (loc' := [some (.ref 25), some (.int (nI a)), some (.int 0), none]) rfl rfl ?_
  refine R_iload z95_23 rfl ?_
  refine R_istore z95_24 (loc' := [some (.ref 25), some (.int (nI a)), some (.int 0), some (.int (nI a))]) rfl rfl ?_
  refine s95b_lp hV hn hQ (n - a) a B (fun _ => none) (by omega) (Nat.le_refl _) hB (fun p hp => hn1 p hp) ⟨fun _ _ z => (by cases z), fun _ _ _ z => (by cases z)⟩ (Lg_0 (fun s z => ?_))
  have h1 := z.1
  have h2 := z.2
  omega

theorem Xs_gup {fx : Nat → Option Nat} {s : Nat} {v : Option Nat} : Xs (gup fx s v) s = Xs fx s := Xs_c (fun t ht => gup_ne (by omega))
theorem First_add {F : Nat → Nat → Prop} {n s k' : Nat} {fx : Nat → Option Nat} {lf : Nat → Nat} {v : Option Nat} (h : First F n fx lf s) (hs : Stl F n (gup fx s v) s (lf s) k') : First F n (gup fx s v) (nup lf (s + 1) k') (s + 1) := by
  refine ⟨by rw [nup_ne (by omega)]; exact h.1, fun t ht => ?_⟩
  by_cases z : t = s
  · subst z; rw [nup_ne (by omega), nup_at]; exact hs
  · rw [nup_ne (by omega), nup_ne (by omega)]
    have := h.2 t (by omega)
    unfold Stl at this ⊢
    rw [gup_ne z, Xs_c (fx := gup fx s v) (fx' := fx) (fun u hu => gup_ne (by omega))]
    exact this
/-- an Int32 that stands for a person or none -/
def rP (x : Int32) (o : Option Nat) : Prop := match o with | none => x = -1 | some p => p < 20 ∧ x = nI p
theorem rP_n {x : Int32} {o : Option Nat} {p : Nat} (h : rP x o) (hp : p < 20) (e : x = nI p) : o = some p := by
  cases o with
  | none => exact absurd (e.symm.trans h) (nm1 (by omega))
  | some p' => rw [h.2, nI_eq (by have := h.1; omega) (by omega)] at e; rw [e]
def rX (B : Nat → Nat → Int32) (fx : Nat → Option Nat) (s : Nat) : Prop := ∀ t, t < 12 → rP (B 40 t) (if t < s then fx t else none)
theorem rX_X {B : Nat → Nat → Int32} {fx : Nat → Option Nat} {s : Nat} (h : rX B fx s) (hs : s ≤ 12) : mX B = Xs fx s := by
  funext q
  refine propext ⟨fun ⟨hq, t, ht, e⟩ => ?_, fun ⟨t, ht, e⟩ => ?_⟩
  · have h1 := rP_n (h t ht) hq e
    by_cases z : t < s
    · rw [if_pos z] at h1; exact ⟨t, z, h1⟩
    · rw [if_neg z] at h1; cases h1
  · have h1 := h t (by omega)
    rw [if_pos ht, e] at h1
    exact ⟨h1.1, t, by omega, h1.2⟩
theorem rX_try {B : Nat → Nat → Int32} {fx : Nat → Option Nat} {s k : Nat} (h : rX B fx s) (hs : s < 12) (hk : k < 20) : mX (va_up B 40 (upd (B 40) s (nI k))) = XU (Xs fx s) k := by
  rw [← rX_X h (by omega)]
  funext q
  unfold mX XU
  rw [vb_at]
  refine propext ⟨fun ⟨hq, t, ht, e⟩ => ?_, fun z => ?_⟩
  · by_cases z : t = s
    · subst z; rw [upd_at, nI_eq (by omega) (by omega)] at e; exact Or.inr e.symm
    · rw [upd_ne z] at e; exact Or.inl ⟨hq, t, ht, e⟩
  · rcases z with ⟨hq, t, ht, e⟩ | z
    · refine ⟨hq, t, ht, ?_⟩
      by_cases z : t = s
      · subst z
        have := h t ht
        rw [if_neg (by omega)] at this
        exact absurd (e.symm.trans this) (nm1 (by omega))
      · rw [upd_ne z]; exact e
    · subst z; exact ⟨hk, s, hs, upd_at⟩
theorem rX_no {B : Nat → Nat → Int32} {fx : Nat → Option Nat} {s : Nat} (h : rX B fx s) : rX B (gup fx s none) (s + 1) := by
  intro t ht
  have := h t ht
  by_cases z : t = s
  · subst z
    rw [if_neg (by omega)] at this
    rw [if_pos (by omega), gup_at]; exact this
  · by_cases y : t < s
    · rw [if_pos y] at this; rw [if_pos (by omega), gup_ne z]; exact this
    · rw [if_neg y] at this; rw [if_neg (by omega)]; exact this
theorem rX_yes {B B2 : Nat → Nat → Int32} {fx : Nat → Option Nat} {s k : Nat} (h : rX B fx s) (hk : k < 20) (e : B2 40 = upd (B 40) s (nI k)) : rX B2 (gup fx s (some k)) (s + 1) := by
  intro t ht
  rw [e]
  have := h t ht
  by_cases z : t = s
  · subst z; rw [upd_at, if_pos (by omega), gup_at]; exact ⟨hk, rfl⟩
  · rw [upd_ne z]
    by_cases y : t < s
    · rw [if_pos y] at this; rw [if_pos (by omega), gup_ne z]; exact this
    · rw [if_neg y] at this; rw [if_neg (by omega)]; exact this
theorem rX_back {B B2 : Nat → Nat → Int32} {fx : Nat → Option Nat} {s k : Nat} (h : rX B fx s) (e : B2 40 = upd (B 40) s (nI k)) : rX (va_up B2 40 (upd (B2 40) s (-1))) fx s := by
  intro t ht
  rw [vb_at, e]
  by_cases z : t = s
  · subst z; rw [upd_at, if_neg (by omega)]; rfl
  · rw [upd_ne z, upd_ne z]; exact h t ht
def fL (C B : Nat → Nat → Int32) : Prop := ∀ a, ¬ a = 39 → ¬ a = 40 → ¬ a = 41 → ¬ a = 43 → ¬ a = 44 → B a = C a
theorem fL_F {C B : Nat → Nat → Int32} (h : fL C B) : mF B = mF C := by unfold mF; rw [h 42 (by decide) (by decide) (by decide) (by decide) (by decide)]
theorem fL_40 {C B : Nat → Nat → Int32} {f : Nat → Int32} (h : fL C B) : fL C (va_up B 40 f) := fun a h1 h2 h3 h4 h5 => by rw [vb_ne h2]; exact h a h1 h2 h3 h4 h5
theorem fL_39 {C B : Nat → Nat → Int32} {f : Nat → Int32} (h : fL C B) : fL C (va_up B 39 f) := fun a h1 h2 h3 h4 h5 => by rw [vb_ne h1]; exact h a h1 h2 h3 h4 h5
theorem fL_3 {C B D : Nat → Nat → Int32} (h : fL C B) (h' : f3 B D) : fL C D := fun a h1 h2 h3 h4 h5 => by rw [h' a h3 h4 h5]; exact h a h1 h2 h3 h4 h5
theorem eqm {m k : Nat} (hm : m ≤ 20) (hk : k ≤ 20) : nI m = nI k - 1 ↔ m + 1 = k := by
  have h1 : (nI m).toInt = m := nI_toInt (by omega)
  have h2 : (nI k - 1).toInt = (k : Int) - 1 := pk_sub_toInt (b := 1) (by omega) (by omega)
  rw [← Int32.toInt_inj, h1, h2]; omega
/-! the rows of the model do not see the plans -/
def fp (A B : Nat → Nat → Int32) : Prop := ∀ a, a < 39 → B a = A a
theorem mPass_fp {A B : Nat → Nat → Int32} (h : fp A B) (p c d : Int32) : ∀ k, mPass B p c d k = mPass A p c d k
  | 0 => rfl
  | k + 1 => by rw [mPass, mPass, mPass_fp h p c d k, h 32 (by decide), h 33 (by decide), h 34 (by decide), h 35 (by decide)]
theorem mOff_fp {A B : Nat → Nat → Int32} (h : fp A B) (x : Nat) (d : Int32) : ∀ k, mOff B x d k = mOff A x d k
  | 0 => rfl
  | k + 1 => by rw [mOff, mOff, mOff_fp h x d k, h 37 (by decide)]
theorem mLap_fp {A B : Nat → Nat → Int32} (h : fp A B) (x : Nat) (d : Int32) : mLap B x d = mLap A x d := by unfold mLap; rw [mOff_fp h, h 34 (by decide), h 26 (by decide), h 33 (by decide), h 36 (by decide)]
theorem mHeld_fp {A B : Nat → Nat → Int32} (h : fp A B) (r : Nat) (p c d : Int32) : mHeld B r p c d ↔ mHeld A r p c d := by unfold mHeld; rw [mPass_fp h, mLap_fp h]
theorem mWf_fp {A B : Nat → Nat → Int32} {V : Nat → Int32} {n r : Nat} (h : fp A B) (hW : mWf A V n r) : mWf B V n r := ⟨hW.1, hW.2.1, hW.2.2.1, hW.2.2.2.1, by rw [h 33 (by decide), h 36 (by decide)]; exact hW.2.2.2.2⟩
def mSe (x : Int64) (k : Nat) : Int32 := (x >>> ((4 * nI k).toInt64 &&& 63)).toInt32 &&& 15
def sBad (V : Nat → Int32) (x : Int64) (k : Nat) : Prop := mSe x k < 0 ∨ ¬ mSe x k < V 9
noncomputable def mUn (V : Nat → Int32) (x : Int64) : Nat → Int32
  | 0 => 0
  | k + 1 => @ite _ (¬ mUn V x k = 0 ∨ sBad V x k) (Classical.propDecidable _) 1 0
theorem mUn_iff {V : Nat → Int32} {x : Int64} : ∀ k, mUn V x k = 0 ↔ ∀ j, j < k → ¬ sBad V x j
  | 0 => ⟨fun _ j hj => absurd hj (by omega), fun _ => rfl⟩
  | k + 1 => by
    rw [mUn]
    by_cases e : ¬ mUn V x k = 0 ∨ sBad V x k
    · rw [if_pos e]
      refine ⟨fun z => absurd z (by decide), fun z => ?_⟩
      rcases e with e | e
      · exact absurd ((mUn_iff k).mpr (fun j hj => z j (by omega))) e
      · exact absurd e (z k (by omega))
    · rw [if_neg e]
      refine ⟨fun _ j hj => ?_, fun _ => rfl⟩
      by_cases y : j = k
      · subst y; exact fun z => e (Or.inr z)
      · exact (mUn_iff k).mp (Classical.byContradiction fun z => e (Or.inl z)) j (by omega)
/-- told seats: at most 12, and n if it is in range -/
def told (n : Int32) (m : Nat) : Prop := m ≤ 12 ∧ (∀ j, j < m → ¬ n ≤ nI j) ∧ (n ≤ nI m ∨ m = 12)
def mFit (A : Nat → Nat → Int32) (V : Nat → Int32) (r : Nat) (x : Int64) (dd : Int32) (s p : Nat) : Prop := mHeld A r (nI p) (mSe x s) (V 7) ∧ ¬ dd < mLap A (mPass A (nI p) (mSe x s) (V 7) r).toNatClampNeg (V 7) - V 7
theorem told_in {n : Int32} {m : Nat} (h : told n m) (hn : jrg n 0 12) : n = nI m := by
  have e12 : (12 : Int32).toInt = 12 := by decide
  have e0 : (0 : Int32).toInt = 0 := by decide
  have a := Int32.le_iff_toInt_le.mp (Int32.not_lt.mp hn.1)
  have b := Int32.le_iff_toInt_le.mp hn.2
  have hm := h.1
  refine Int32.toInt_inj.mp ?_
  rw [nI_toInt (by omega)]
  have c : n.toInt ≤ m := by
    rcases h.2.2 with z | z
    · have := Int32.le_iff_toInt_le.mp z; rw [nI_toInt (by omega)] at this; exact this
    · omega
  have d : ¬ n.toInt < m := fun z => by
    have := h.2.1 n.toInt.toNat (by omega)
    rw [Int32.le_iff_toInt_le, nI_toInt (by omega)] at this
    omega
  omega
theorem told_ex (n : Int32) : ∃ m, told n m := by
  have e12 : (12 : Int32).toInt = 12 := by decide
  by_cases h : n.toInt ≤ 0
  · exact ⟨0, by omega, fun j hj => absurd hj (by omega), Or.inl (Int32.le_iff_toInt_le.mpr h)⟩
  · by_cases h2 : n.toInt ≤ 12
    · refine ⟨n.toInt.toNat, by omega, fun j hj z => ?_, Or.inl ?_⟩
      · rw [Int32.le_iff_toInt_le, nI_toInt (by omega)] at z; omega
      · rw [Int32.le_iff_toInt_le, nI_toInt (by omega)]; omega
    · refine ⟨12, by omega, fun j hj z => ?_, Or.inr rfl⟩
      rw [Int32.le_iff_toInt_le, nI_toInt (by omega)] at z; omega
theorem s96a_lp {l : Launch} {E : jEnv} {A : Nat → Nat → Int32} {V : Nat → Int32} {O : Nat → Int64} {Q : jO → List jC → Prop} {x : Int64} {n dd : Int32} {m nc : Nat} (hm : told n m) (hV9 : V 9 = nI nc) (hnc : nc ≤ 16) (hK : GO l E 96 54 [some (.ref 25), some (.long x), none, some (.int n), some (.int dd), some (.int (mUn V x m)), none, none, none, none, none] [] (hp A V O) 0 0 Q) : ∀ (d k : Nat), k + d = m →  GO l E 96 6 [some (.ref 25), some (.long x), none, some (.int n), some (.int dd), some (.int (mUn V x k)), some (.int (nI k)), none, none, none, none] [] (hp A V O) 0 0 Q := by
  intro d
  induction d with
  | zero =>
    intro k hk 
    have hm12 := hm.1
    refine R_iload z96_6 rfl ?_
    refine R_iload z96_8 rfl ?_
    refine R_icmp z96_9 (tn := 54) rfl (fun (h9 : (n : Int32) ≤ (nI k)) => ?_) (fun (h9 : ¬ (n : Int32) ≤ (nI k)) => ?_)
    · have e9 : k = m := by omega
      subst e9
      exact GO_drop 6 hK
    · refine R_iload z96_12 rfl ?_
      refine R_bipush z96_14 (v := 12) (by decide) ?_
      refine R_icmp z96_16 (tn := 54) rfl (fun (h16 : (12 : Int32) ≤ (nI k)) => ?_) (fun (h16 : ¬ (12 : Int32) ≤ (nI k)) => ?_)
      · have e9 : k = m := by omega
        subst e9
        exact GO_drop 6 hK
      · exact absurd (hm.2.2.elim id (fun y => absurd (show (12 : Int32) ≤ nI k by rw [show (12 : Int32) = nI 12 by decide, nge (by omega) (by omega)]; omega) h16)) (by rw [show m = k by omega]; exact h9)
  | succ d ih =>
    intro k hk 
    have hm12 := hm.1
    refine R_iload z96_6 rfl ?_
    refine R_iload z96_8 rfl ?_
    refine R_icmp z96_9 (tn := 54) rfl (fun q => absurd q (hm.2.1 k (by omega))) (fun (h9 : ¬ (n : Int32) ≤ (nI k)) => ?_)
    refine R_iload z96_12 rfl ?_
    refine R_bipush z96_14 (v := 12) (by decide) ?_
    refine R_icmp z96_16 (tn := 54) rfl (fun q => absurd q ((show ¬ (12 : Int32) ≤ nI k by rw [show (12 : Int32) = nI 12 by decide, nge (by have := hm.1; omega) (by omega)]; have := hm.1; omega))) (fun (h16 : ¬ (12 : Int32) ≤ (nI k)) => ?_)
    refine R_iload z96_19 rfl ?_
    refine R_if z96_21 (tn := 41) rfl (fun (h21 : ¬ ((mUn V x k) : Int32) = 0) => ?_) (fun (h21 : ¬ (¬ ((mUn V x k) : Int32) = 0)) => ?_)
    · refine R_iconst z96_41 (v := 1) (by decide) ?_
      refine R_goto z96_42 (tn := 46) rfl ?_
      refine R_istore z96_46 (loc' := [some (.ref 25), some (.long x), none, some (.int n), some (.int dd), some (.int 1), some (.int (nI k)), none, none, none, none]) rfl rfl ?_
      refine R_iinc z96_48 (v := 1) (loc' := [some (.ref 25), some (.long x), none, some (.int n), some (.int dd), some (.int 1), some (.int (nI (k + 1))), none, none, none, none]) rfl rfl (by decide) (by rw [nI_1]; rfl) ?_
      refine R_goto z96_51 (tn := 6) rfl ?_
      have e9 : mUn V x (k + 1) = 1 := by rw [mUn, if_pos (Or.inl h21)]
      have G := ih (k + 1) (by omega)
      rw [e9] at G
      exact G
    · refine R_aload z96_24 rfl ?_
      refine R_lload z96_25 rfl ?_
      refine R_iconst z96_26 (v := 4) (by decide) ?_
      refine R_iload z96_27 rfl ?_
      refine R_imul z96_29 ?_
      refine R_lshr z96_30 ?_
      refine R_l2i z96_31 ?_
      refine R_bipush z96_32 (v := 15) (by decide) ?_
      refine R_iand z96_34 ?_
      refine R_top (y := (mSe x k)) (rfl) ?_
      refine R_cv z96_35 (k := 65) (by decide +kernel) rfl rfl (by decide +kernel) (Nat.le_of_ble_eq_true (by rfl)) rfl ⟨rfl, trivial⟩ ?_
      refine s65 hV9 hnc (fun c2 e2 l2 => jBk_ret rfl ⟨rfl, rfl⟩ ?_) (fun g => jBk_ret rfl ⟨rfl, rfl⟩ ?_)
      · refine R_if z96_38 (tn := 45) rfl (fun _ => ?_) (fun q => absurd (show ¬ (1 : Int32) = 0 by decide) q)
        refine R_iconst z96_45 (v := 0) (by decide) ?_
        refine R_istore z96_46 (loc' := [some (.ref 25), some (.long x), none, some (.int n), some (.int dd), some (.int 0), some (.int (nI k)), none, none, none, none]) rfl rfl ?_
        refine R_iinc z96_48 (v := 1) (loc' := [some (.ref 25), some (.long x), none, some (.int n), some (.int dd), some (.int 0), some (.int (nI (k + 1))), none, none, none, none]) rfl rfl (by decide) (by rw [nI_1]; rfl) ?_
        refine R_goto z96_51 (tn := 6) rfl ?_
        have e9 : mUn V x (k + 1) = 0 := by rw [mUn, if_neg (fun y => y.elim h21 (fun z => absurd (show mSe x k < 0 ∨ ¬ mSe x k < nI nc by rw [← hV9]; exact z) (ncb e2 l2 hnc)))]
        have G := ih (k + 1) (by omega)
        rw [e9] at G
        exact G
      · refine R_if z96_38 (tn := 45) rfl (fun q => absurd (show ¬ (0 : Int32) = 0 from q) (by decide)) (fun _ => ?_)
        refine R_iconst z96_41 (v := 1) (by decide) ?_
        refine R_goto z96_42 (tn := 46) rfl ?_
        refine R_istore z96_46 (loc' := [some (.ref 25), some (.long x), none, some (.int n), some (.int dd), some (.int 1), some (.int (nI k)), none, none, none, none]) rfl rfl ?_
        refine R_iinc z96_48 (v := 1) (loc' := [some (.ref 25), some (.long x), none, some (.int n), some (.int dd), some (.int 1), some (.int (nI (k + 1))), none, none, none, none]) rfl rfl (by decide) (by rw [nI_1]; rfl) ?_
        refine R_goto z96_51 (tn := 6) rfl ?_
        have e9 : mUn V x (k + 1) = 1 := by rw [mUn, if_pos (Or.inr (by unfold sBad; rw [hV9]; exact g))]
        have G := ih (k + 1) (by omega)
        rw [e9] at G
        exact G
theorem s96x {l : Launch} {E : jEnv} {A : Nat → Nat → Int32} {V : Nat → Int32} {O : Nat → Int64} {Q : jO → List jC → Prop} {x : Int64} {n dd u : Int32} (hu : ¬ u = 0) (hQ : Q (.inl (some (.int 0))) (hp A (va_up V 6 1) O)) : GO l E 96 54 [some (.ref 25), some (.long x), none, some (.int n), some (.int dd), some (.int u), none, none, none, none, none] [] (hp A V O) 0 0 Q := by
  refine R_aload z96_54 rfl ?_
  refine R_iload z96_55 rfl ?_
  refine R_iload z96_57 rfl ?_
  refine R_iconst z96_58 (v := 0) (by decide) ?_
  refine R_bipush z96_59 (v := 12) (by decide) ?_
  refine R_cs z96_61 (k := 64) (kind := 1) (by decide +kernel) (by decide) rfl rfl (by decide +kernel) (Nat.le_of_ble_eq_true (by rfl)) rfl ?_
  refine s64 (fun g => jBk_ret rfl ⟨rfl, rfl⟩ ?_) (fun g => jBk_ret rfl ⟨rfl, rfl⟩ ?_)
  · refine R_if z96_64 (tn := 79) rfl (fun q => absurd (show (1 : Int32) = 0 from q) (by decide)) (fun _ => ?_)
    refine R_iload z96_67 rfl ?_
    refine R_iconst z96_69 (v := 0) (by decide) ?_
    refine R_sipush z96_70 (v := 2100) (by decide) ?_
    refine R_cs z96_73 (k := 64) (kind := 1) (by decide +kernel) (by decide) rfl rfl (by decide +kernel) (Nat.le_of_ble_eq_true (by rfl)) rfl ?_
    refine s64 (fun g2 => jBk_ret rfl ⟨rfl, rfl⟩ ?_) (fun g2 => jBk_ret rfl ⟨rfl, rfl⟩ ?_)
    · refine R_if z96_76 (tn := 83) rfl (fun _ => ?_) (fun q => absurd (show ¬ (1 : Int32) = 0 by decide) q)
      refine R_iconst z96_83 (v := 0) (by decide) ?_
      refine R_iconst z96_84 (v := 0) (by decide) ?_
      refine R_iconst z96_85 (v := 0) (by decide) ?_
      refine R_cv z96_86 (k := 63) (by decide +kernel) rfl rfl (by decide +kernel) (Nat.le_of_ble_eq_true (by rfl)) rfl ⟨rfl, trivial⟩ ?_
      refine s63k (n := 1) (if_pos hu) (by decide) (jBk_ret rfl ⟨rfl, rfl⟩ ?_)
      refine R_if z96_89 (tn := 94) rfl (fun q => absurd (show (1 : Int32) = 0 from q) (by decide)) (fun _ => ?_)
      refine R_iconst z96_92 (v := 0) (by decide) ?_
      exact R_iret z96_93 (Or.inl (by decide +kernel)) ⟨Nat.zero_le _, Nat.zero_le _⟩ (hQ)
    · refine R_if z96_76 (tn := 83) rfl (fun q => absurd (show ¬ (0 : Int32) = 0 from q) (by decide)) (fun _ => ?_)
      refine R_iconst z96_79 (v := 1) (by decide) ?_
      refine R_goto z96_80 (tn := 84) rfl ?_
      refine R_iconst z96_84 (v := 0) (by decide) ?_
      refine R_iconst z96_85 (v := 0) (by decide) ?_
      refine R_cv z96_86 (k := 63) (by decide +kernel) rfl rfl (by decide +kernel) (Nat.le_of_ble_eq_true (by rfl)) rfl ⟨rfl, trivial⟩ ?_
      refine s63k (n := 1) (if_pos hu) (by decide) (jBk_ret rfl ⟨rfl, rfl⟩ ?_)
      refine R_if z96_89 (tn := 94) rfl (fun q => absurd (show (1 : Int32) = 0 from q) (by decide)) (fun _ => ?_)
      refine R_iconst z96_92 (v := 0) (by decide) ?_
      exact R_iret z96_93 (Or.inl (by decide +kernel)) ⟨Nat.zero_le _, Nat.zero_le _⟩ (hQ)
  · refine R_if z96_64 (tn := 79) rfl (fun _ => ?_) (fun q => absurd (show (0 : Int32) = 0 by decide) q)
    refine R_iconst z96_79 (v := 1) (by decide) ?_
    refine R_goto z96_80 (tn := 84) rfl ?_
    refine R_iconst z96_84 (v := 0) (by decide) ?_
    refine R_iconst z96_85 (v := 0) (by decide) ?_
    refine R_cv z96_86 (k := 63) (by decide +kernel) rfl rfl (by decide +kernel) (Nat.le_of_ble_eq_true (by rfl)) rfl ⟨rfl, trivial⟩ ?_
    refine s63k (n := 1) (if_pos hu) (by decide) (jBk_ret rfl ⟨rfl, rfl⟩ ?_)
    refine R_if z96_89 (tn := 94) rfl (fun q => absurd (show (1 : Int32) = 0 from q) (by decide)) (fun _ => ?_)
    refine R_iconst z96_92 (v := 0) (by decide) ?_
    exact R_iret z96_93 (Or.inl (by decide +kernel)) ⟨Nat.zero_le _, Nat.zero_le _⟩ (hQ)
theorem s96y {l : Launch} {E : jEnv} {A : Nat → Nat → Int32} {V : Nat → Int32} {O : Nat → Int64} {Q : jO → List jC → Prop} {x : Int64} {n dd : Int32} (hI : ¬ (jrg n 0 12 ∧ jrg dd 0 2100) → Q (.inl (some (.int 0))) (hp A (va_up V 6 2) O)) (hK : jrg n 0 12 → jrg dd 0 2100 → GO l E 96 99 [some (.ref 25), some (.long x), none, some (.int n), some (.int dd), some (.int 0), none, none, none, none, none] [] (hp A (va_up (va_up V 6 0) 11 n) O) 0 0 Q) : GO l E 96 54 [some (.ref 25), some (.long x), none, some (.int n), some (.int dd), some (.int 0), none, none, none, none, none] [] (hp A V O) 0 0 Q := by
  refine R_aload z96_54 rfl ?_
  refine R_iload z96_55 rfl ?_
  refine R_iload z96_57 rfl ?_
  refine R_iconst z96_58 (v := 0) (by decide) ?_
  refine R_bipush z96_59 (v := 12) (by decide) ?_
  refine R_cs z96_61 (k := 64) (kind := 1) (by decide +kernel) (by decide) rfl rfl (by decide +kernel) (Nat.le_of_ble_eq_true (by rfl)) rfl ?_
  refine s64 (fun g => jBk_ret rfl ⟨rfl, rfl⟩ ?_) (fun g => jBk_ret rfl ⟨rfl, rfl⟩ ?_)
  · refine R_if z96_64 (tn := 79) rfl (fun q => absurd (show (1 : Int32) = 0 from q) (by decide)) (fun _ => ?_)
    refine R_iload z96_67 rfl ?_
    refine R_iconst z96_69 (v := 0) (by decide) ?_
    refine R_sipush z96_70 (v := 2100) (by decide) ?_
    refine R_cs z96_73 (k := 64) (kind := 1) (by decide +kernel) (by decide) rfl rfl (by decide +kernel) (Nat.le_of_ble_eq_true (by rfl)) rfl ?_
    refine s64 (fun g2 => jBk_ret rfl ⟨rfl, rfl⟩ ?_) (fun g2 => jBk_ret rfl ⟨rfl, rfl⟩ ?_)
    · refine R_if z96_76 (tn := 83) rfl (fun _ => ?_) (fun q => absurd (show ¬ (1 : Int32) = 0 by decide) q)
      refine R_iconst z96_83 (v := 0) (by decide) ?_
      refine R_iconst z96_84 (v := 0) (by decide) ?_
      refine R_iconst z96_85 (v := 0) (by decide) ?_
      refine R_cv z96_86 (k := 63) (by decide +kernel) rfl rfl (by decide +kernel) (Nat.le_of_ble_eq_true (by rfl)) rfl ⟨rfl, trivial⟩ ?_
      refine s63 (fun _ => jBk_ret rfl ⟨rfl, rfl⟩ ?_) (fun q => absurd rfl q)
      refine R_if z96_89 (tn := 94) rfl (fun _ => ?_) (fun q => absurd (show (0 : Int32) = 0 by decide) q)
      refine R_aload z96_94 rfl ?_
      refine R_iload z96_95 rfl ?_
      refine R_puti z96_96 (k := 4) (f := 18) (h' := hp A (va_up (va_up V 6 0) 11 n) O) (by decide +kernel) (by decide +kernel) rfl (Nat.le_of_ble_eq_true rfl) rfl ?_
      exact hK g g2
    · refine R_if z96_76 (tn := 83) rfl (fun q => absurd (show ¬ (0 : Int32) = 0 from q) (by decide)) (fun _ => ?_)
      refine R_iconst z96_79 (v := 1) (by decide) ?_
      refine R_goto z96_80 (tn := 84) rfl ?_
      refine R_iconst z96_84 (v := 0) (by decide) ?_
      refine R_iconst z96_85 (v := 0) (by decide) ?_
      refine R_cv z96_86 (k := 63) (by decide +kernel) rfl rfl (by decide +kernel) (Nat.le_of_ble_eq_true (by rfl)) rfl ⟨rfl, trivial⟩ ?_
      refine s63 (fun q => absurd q (by decide)) (fun _ => jBk_ret rfl ⟨rfl, rfl⟩ ?_)
      refine R_if z96_89 (tn := 94) rfl (fun q => absurd (show (1 : Int32) = 0 from q) (by decide)) (fun _ => ?_)
      refine R_iconst z96_92 (v := 0) (by decide) ?_
      exact R_iret z96_93 (Or.inl (by decide +kernel)) ⟨Nat.zero_le _, Nat.zero_le _⟩ (hI (fun y => g2 y.2))
  · refine R_if z96_64 (tn := 79) rfl (fun _ => ?_) (fun q => absurd (show (0 : Int32) = 0 by decide) q)
    refine R_iconst z96_79 (v := 1) (by decide) ?_
    refine R_goto z96_80 (tn := 84) rfl ?_
    refine R_iconst z96_84 (v := 0) (by decide) ?_
    refine R_iconst z96_85 (v := 0) (by decide) ?_
    refine R_cv z96_86 (k := 63) (by decide +kernel) rfl rfl (by decide +kernel) (Nat.le_of_ble_eq_true (by rfl)) rfl ⟨rfl, trivial⟩ ?_
    refine s63 (fun q => absurd q (by decide)) (fun _ => jBk_ret rfl ⟨rfl, rfl⟩ ?_)
    refine R_if z96_89 (tn := 94) rfl (fun q => absurd (show (1 : Int32) = 0 from q) (by decide)) (fun _ => ?_)
    refine R_iconst z96_92 (v := 0) (by decide) ?_
    exact R_iret z96_93 (Or.inl (by decide +kernel)) ⟨Nat.zero_le _, Nat.zero_le _⟩ (hI (fun y => g y.1))
theorem s96c_lp {l : Launch} {E : jEnv} {A : Nat → Nat → Int32} {V : Nat → Int32} {O : Nat → Int64} {Q : jO → List jC → Prop} {x : Int64} {dd : Int32} {m : Nat} (hK : ∀ B, fp A B → (∀ s, s < 12 → B 40 s = -1) → GO l E 96 123 [some (.ref 25), some (.long x), none, some (.int (nI m)), some (.int dd), some (.int 0), none, none, none, none, none] [] (hp B V O) 0 0 Q) : ∀ (d k : Nat) (B : Nat → Nat → Int32), k + d = 12 → fp A B → (∀ s, s < k → B 40 s = -1) → GO l E 96 102 [some (.ref 25), some (.long x), none, some (.int (nI m)), some (.int dd), some (.int 0), some (.int (nI k)), none, none, none, none] [] (hp B V O) 0 0 Q := by
  intro d
  induction d with
  | zero =>
    intro k B hk hB h1
    refine R_iload z96_102 rfl ?_
    refine R_bipush z96_104 (v := 12) (by decide) ?_
    refine R_icmp z96_106 (tn := 123) rfl (fun (h106 : (12 : Int32) ≤ (nI k)) => ?_) (fun q => absurd ((show (12 : Int32) ≤ nI k by rw [show (12 : Int32) = nI 12 by decide, nge (by omega) (by omega)]; omega)) q)
    have e9 : k = 12 := by omega
    subst e9
    exact GO_drop 6 (hK B hB h1)
  | succ d ih =>
    intro k B hk hB h1
    refine R_iload z96_102 rfl ?_
    refine R_bipush z96_104 (v := 12) (by decide) ?_
    refine R_icmp z96_106 (tn := 123) rfl (fun q => absurd q ((show ¬ (12 : Int32) ≤ nI k by rw [show (12 : Int32) = nI 12 by decide, nge (by omega) (by omega)]; omega))) (fun (h106 : ¬ (12 : Int32) ≤ (nI k)) => ?_)
    refine R_aload z96_109 rfl ?_
    refine R_get z96_110 (k := 4) (f := 20) (by decide +kernel) rfl rfl ?_
    refine R_iload z96_113 rfl ?_
    refine R_iconst z96_115 (v := (-1)) (by decide) ?_
    refine R_ist z96_116 (n := 12) (f := B 40) (h' := hp (va_up B 40 (upd (B 40) k (-1))) V O) rfl (nin (by omega) (by decide)) (by rw [ncl (by omega)]; rfl) ?_
    refine R_iinc z96_117 (v := 1) (loc' := [some (.ref 25), some (.long x), none, some (.int (nI m)), some (.int dd), some (.int 0), some (.int (nI (k + 1))), none, none, none, none]) rfl rfl (by decide) (by rw [nI_1]; rfl) ?_
    refine R_goto z96_120 (tn := 102) rfl ?_
    refine ih (k + 1) _ (by omega) (fun a ha => by rw [vb_ne (by omega)]; exact hB a ha) (fun p hp => ?_)
    rw [vb_at]
    by_cases z : p = k
    · subst z; exact upd_at
    · rw [upd_ne z]; exact h1 p (by omega)
def cR (A : Nat → Nat → Int32) (V : Nat → Int32) (r : Nat) (x : Int64) (dd : Int32) (B : Nat → Nat → Int32) (s k : Nat) : Prop := ∀ s2 p, p < 20 → (s2 < s ∨ s2 = s ∧ p < k) → (mF B s2 p ↔ mFit A V r x dd s2 p)
theorem cR_up {A : Nat → Nat → Int32} {V : Nat → Int32} {r s k : Nat} {x : Int64} {dd v : Int32} {B : Nat → Nat → Int32} (h : cR A V r x dd B s k) (hk : k < 20) (hv : ¬ v = 0 ↔ mFit A V r x dd s k) : cR A V r x dd (va_up B 42 (upd (B 42) (20 * s + k) v)) s (k + 1) := by
  intro s2 p hp h2
  show ¬ upd (B 42) (20 * s + k) v (20 * s2 + p) = 0 ↔ _
  by_cases z : s2 = s ∧ p = k
  · obtain ⟨z1, z2⟩ := z
    subst z1; subst z2
    rw [upd_at]; exact hv
  · rw [upd_ne (by omega)]; exact h s2 p hp (by omega)
theorem s96d_lp {l : Launch} {E : jEnv} {A : Nat → Nat → Int32} {V : Nat → Int32} {O : Nat → Int64} {Q : jO → List jC → Prop} {x : Int64} {dd : Int32} {m s nc r : Nat} (hW : mWf A V nc r) (hs : s < 12) (hK : ∀ B, fp A B → (∀ s, s < 12 → B 40 s = -1) → cR A V r x dd B s 20 → GO l E 96 223 [some (.ref 25), some (.long x), none, some (.int (nI m)), some (.int dd), some (.int 0), some (.int (nI s)), none, none, none, none] [] (hp B (va_up (va_up V 6 0) 11 (nI m)) O) 0 0 Q) : ∀ (d k : Nat) (B : Nat → Nat → Int32), k + d = 20 → fp A B → (∀ s, s < 12 → B 40 s = -1) → cR A V r x dd B s k → GO l E 96 147 [some (.ref 25), some (.long x), none, some (.int (nI m)), some (.int dd), some (.int 0), some (.int (nI s)), some (.int (mSe x s)), some (.int (nI k)), none, none] [] (hp B (va_up (va_up V 6 0) 11 (nI m)) O) 0 0 Q := by
  intro d
  induction d with
  | zero =>
    intro k B hk hB h0 h1
    refine R_iload z96_147 rfl ?_
    refine R_bipush z96_149 (v := 20) (by decide) ?_
    refine R_icmp z96_151 (tn := 223) rfl (fun (h151 : (20 : Int32) ≤ (nI k)) => ?_) (fun q => absurd ((show (20 : Int32) ≤ nI k by rw [show (20 : Int32) = nI 20 by decide, nge (by omega) (by omega)]; omega)) q)
    have e9 : k = 20 := by omega
    subst e9
    exact GO_drop 7 (GO_drop 8 (hK B hB h0 h1))
  | succ d ih =>
    intro k B hk hB h0 h1
    refine R_iload z96_147 rfl ?_
    refine R_bipush z96_149 (v := 20) (by decide) ?_
    refine R_icmp z96_151 (tn := 223) rfl (fun q => absurd q ((show ¬ (20 : Int32) ≤ nI k by rw [show (20 : Int32) = nI 20 by decide, nge (by omega) (by omega)]; omega))) (fun (h151 : ¬ (20 : Int32) ≤ (nI k)) => ?_)
    refine R_aload z96_154 rfl ?_
    refine R_get z96_155 (k := 4) (f := 22) (by decide +kernel) rfl rfl ?_
    refine R_bipush z96_158 (v := 20) (by decide) ?_
    refine R_iload z96_160 rfl ?_
    refine R_imul z96_162 ?_
    refine R_iload z96_163 rfl ?_
    refine R_iadd z96_165 ?_
    refine R_top (y := nI (20 * s + k)) (mpair 20 s k _ (by decide)) ?_
    refine R_aload z96_166 rfl ?_
    refine R_iload z96_167 rfl ?_
    refine R_iload z96_169 rfl ?_
    refine R_aload z96_171 rfl ?_
    refine R_get z96_172 (k := 4) (f := 1) (by decide +kernel) rfl rfl ?_
    refine R_cv z96_175 (k := 75) (by decide +kernel) rfl rfl (by decide +kernel) (Nat.le_of_ble_eq_true (by rfl)) rfl ⟨rfl, trivial⟩ ?_
    refine s75 (show mWf B (va_up (va_up V 6 0) 11 (nI m)) nc r from mWf_fp (A := A) (V := V) hB hW) (fun g => jBk_ret rfl ⟨rfl, rfl⟩ ?_) (fun g => jBk_ret rfl ⟨rfl, rfl⟩ ?_)
    · refine R_if z96_178 (tn := 215) rfl (fun q => absurd (show (1 : Int32) = 0 from q) (by decide)) (fun _ => ?_)
      obtain ⟨y, hy, ex⟩ := mPass_nat hW.2.2.2.1 g.1
      replace ex : mPass B (nI k) (mSe x s) (V 7) r = nI y := ex
      refine R_aload z96_181 rfl ?_
      refine R_aload z96_182 rfl ?_
      refine R_iload z96_183 rfl ?_
      refine R_iload z96_185 rfl ?_
      refine R_aload z96_187 rfl ?_
      refine R_get z96_188 (k := 4) (f := 1) (by decide +kernel) rfl rfl ?_
      refine R_cv z96_191 (k := 73) (by decide +kernel) rfl rfl (by decide +kernel) (Nat.le_of_ble_eq_true (by rfl)) rfl ⟨rfl, trivial⟩ ?_
      refine s73x (show mWf B (va_up (va_up V 6 0) 11 (nI m)) nc r from mWf_fp (A := A) (V := V) hB hW) ex (jBk_ret rfl ⟨rfl, rfl⟩ ?_)
      refine R_aload z96_194 rfl ?_
      refine R_get z96_195 (k := 4) (f := 1) (by decide +kernel) rfl rfl ?_
      refine R_cv z96_198 (k := 74) (by decide +kernel) rfl rfl (by decide +kernel) (Nat.le_of_ble_eq_true (by rfl)) rfl ⟨rfl, trivial⟩ ?_
      refine s74 (show mWf B (va_up (va_up V 6 0) 11 (nI m)) nc r from mWf_fp (A := A) (V := V) hB hW) hy (jBk_ret rfl ⟨rfl, rfl⟩ ?_)
      refine R_aload z96_201 rfl ?_
      refine R_get z96_202 (k := 4) (f := 1) (by decide +kernel) rfl rfl ?_
      refine R_isub z96_205 ?_
      refine R_iload z96_206 rfl ?_
      refine R_icmp z96_208 (tn := 215) rfl (fun (h208 : (dd : Int32) < ((mLap B y (V 7)) - ((va_up (va_up V 6 0) 11 (nI m)) 7))) => ?_) (fun (h208 : ¬ (dd : Int32) < ((mLap B y (V 7)) - ((va_up (va_up V 6 0) 11 (nI m)) 7))) => ?_)
      · refine R_iconst z96_215 (v := 0) (by decide) ?_
        refine R_zst z96_216 (n := 240) (f := B 42) (h' := hp (va_up B 42 (upd (B 42) (20 * s + k) 0)) (va_up (va_up V 6 0) 11 (nI m)) O) rfl (nin (by omega) (by decide)) (by rw [ncl (by omega)]; rfl) ?_
        refine R_iinc z96_217 (v := 1) (loc' := [some (.ref 25), some (.long x), none, some (.int (nI m)), some (.int dd), some (.int 0), some (.int (nI s)), some (.int (mSe x s)), some (.int (nI (k + 1))), none, none]) rfl rfl (by decide) (by rw [nI_1]; rfl) ?_
        refine R_goto z96_220 (tn := 147) rfl ?_
        exact ih (k + 1) _ (by omega) (fun a ha => by rw [vb_ne (by omega)]; exact hB a ha) h0 (cR_up (v := 0) h1 (by omega) ⟨fun y => absurd rfl y, fun y => absurd h208 (by have q := y.2; rw [← mPass_fp hB, ex, ncl (by have := hW.2.2.2.1; omega), ← mLap_fp hB] at q; exact q)⟩)
      · refine R_iconst z96_211 (v := 1) (by decide) ?_
        refine R_goto z96_212 (tn := 216) rfl ?_
        refine R_zst z96_216 (n := 240) (f := B 42) (h' := hp (va_up B 42 (upd (B 42) (20 * s + k) 1)) (va_up (va_up V 6 0) 11 (nI m)) O) rfl (nin (by omega) (by decide)) (by rw [ncl (by omega)]; rfl) ?_
        refine R_iinc z96_217 (v := 1) (loc' := [some (.ref 25), some (.long x), none, some (.int (nI m)), some (.int dd), some (.int 0), some (.int (nI s)), some (.int (mSe x s)), some (.int (nI (k + 1))), none, none]) rfl rfl (by decide) (by rw [nI_1]; rfl) ?_
        refine R_goto z96_220 (tn := 147) rfl ?_
        exact ih (k + 1) _ (by omega) (fun a ha => by rw [vb_ne (by omega)]; exact hB a ha) h0 (cR_up (v := 1) h1 (by omega) ⟨fun _ => ⟨(mHeld_fp hB _ _ _ _).mp g, by rw [← mPass_fp hB, ex, ncl (by have := hW.2.2.2.1; omega), ← mLap_fp hB]; exact h208⟩, fun _ y => by cases y⟩)
    · refine R_if z96_178 (tn := 215) rfl (fun _ => ?_) (fun q => absurd (show (0 : Int32) = 0 by decide) q)
      refine R_iconst z96_215 (v := 0) (by decide) ?_
      refine R_zst z96_216 (n := 240) (f := B 42) (h' := hp (va_up B 42 (upd (B 42) (20 * s + k) 0)) (va_up (va_up V 6 0) 11 (nI m)) O) rfl (nin (by omega) (by decide)) (by rw [ncl (by omega)]; rfl) ?_
      refine R_iinc z96_217 (v := 1) (loc' := [some (.ref 25), some (.long x), none, some (.int (nI m)), some (.int dd), some (.int 0), some (.int (nI s)), some (.int (mSe x s)), some (.int (nI (k + 1))), none, none]) rfl rfl (by decide) (by rw [nI_1]; rfl) ?_
      refine R_goto z96_220 (tn := 147) rfl ?_
      exact ih (k + 1) _ (by omega) (fun a ha => by rw [vb_ne (by omega)]; exact hB a ha) h0 (cR_up (v := 0) h1 (by omega) ⟨fun y => absurd rfl y, fun y => absurd ((mHeld_fp hB _ _ _ _).mpr y.1) g⟩)
theorem s96e_lp {l : Launch} {E : jEnv} {A : Nat → Nat → Int32} {V : Nat → Int32} {O : Nat → Int64} {Q : jO → List jC → Prop} {x : Int64} {dd : Int32} {m nc r : Nat} (hW : mWf A V nc r) (hm : m ≤ 12) (hK : ∀ B, fp A B → (∀ s, s < 12 → B 40 s = -1) → cR A V r x dd B m 0 → GO l E 96 229 [some (.ref 25), some (.long x), none, some (.int (nI m)), some (.int dd), some (.int 0), none, none, none, none, none] [] (hp B (va_up (va_up V 6 0) 11 (nI m)) O) 0 0 Q) : ∀ (d k : Nat) (B : Nat → Nat → Int32), k + d = m → fp A B → (∀ s, s < 12 → B 40 s = -1) → cR A V r x dd B k 0 → GO l E 96 126 [some (.ref 25), some (.long x), none, some (.int (nI m)), some (.int dd), some (.int 0), some (.int (nI k)), none, none, none, none] [] (hp B (va_up (va_up V 6 0) 11 (nI m)) O) 0 0 Q := by
  intro d
  induction d with
  | zero =>
    intro k B hk hB h0 h1
    refine R_iload z96_126 rfl ?_
    refine R_iload z96_128 rfl ?_
    refine R_icmp z96_129 (tn := 229) rfl (fun (h129 : ((nI m) : Int32) ≤ (nI k)) => ?_) (fun q => absurd ((show nI m ≤ nI k by rw [nge (by omega) (by omega)]; omega)) q)
    have e9 : k = m := by omega
    subst e9
    exact GO_drop 6 (hK B hB h0 h1)
  | succ d ih =>
    intro k B hk hB h0 h1
    refine R_iload z96_126 rfl ?_
    refine R_iload z96_128 rfl ?_
    refine R_icmp z96_129 (tn := 229) rfl (fun q => absurd q ((show ¬ nI m ≤ nI k by rw [nge (by omega) (by omega)]; omega))) (fun (h129 : ¬ ((nI m) : Int32) ≤ (nI k)) => ?_)
    refine R_lload z96_132 rfl ?_
    refine R_iconst z96_133 (v := 4) (by decide) ?_
    refine R_iload z96_134 rfl ?_
    refine R_imul z96_136 ?_
    refine R_lshr z96_137 ?_
    refine R_l2i z96_138 ?_
    refine R_bipush z96_139 (v := 15) (by decide) ?_
    refine R_iand z96_141 ?_
    refine R_top (y := (mSe x k)) (rfl) ?_
    refine R_istore z96_142 (loc' := [some (.ref 25), some (.long x), none, some (.int (nI m)), some (.int dd), some (.int 0), some (.int (nI k)), some (.int (mSe x k)), none, none, none]) rfl rfl ?_
    refine R_iconst z96_144 (v := 0) (by decide) ?_
    refine R_istore z96_145 (loc' := [some (.ref 25), some (.long x), none, some (.int (nI m)), some (.int dd), some (.int 0), some (.int (nI k)), some (.int (mSe x k)), some (.int 0), none, none]) rfl rfl ?_
    refine s96d_lp hW (by omega) ?_ 20 0 B (by omega) hB h0 (fun s2 p hp y => h1 s2 p hp (by omega))
    intro B2 hB2 h02 h12
    refine R_iinc z96_223 (v := 1) (loc' := [some (.ref 25), some (.long x), none, some (.int (nI m)), some (.int dd), some (.int 0), some (.int (nI (k + 1))), none, none, none, none]) rfl rfl (by decide) (by rw [nI_1]; rfl) ?_
    refine R_goto z96_226 (tn := 126) rfl ?_
    exact ih (k + 1) B2 (by omega) hB2 h02 (fun s2 p hp y => h12 s2 p hp (by omega))
theorem s96f_lp {l : Launch} {E : jEnv} {A : Nat → Nat → Int32} {V : Nat → Int32} {O : Nat → Int64} {Q : jO → List jC → Prop} {x : Int64} {dd : Int32} {m s al : Nat} {fx : Nat → Option Nat} {lf : Nat → Nat} (hV : V 11 = nI m) (hm : m ≤ 12) (hs : s < m) (hL : lf s ≤ 20) (hK0 : ∀ B, fL A B → rX B fx s → (∀ q, ¬ OKp (mF A) m (Xs fx s) s (lf s) q) → GO l E 96 337 [some (.ref 25), some (.long x), none, some (.int (nI m)), some (.int dd), some (.int 0), some (.int (nI al)), some (.int (nI (lf s))), some (.int (nI s)), some (.int (-1)), none] [] (hp B V O) 0 0 Q) (hK1 : ∀ B p, fL A B → rX B (gup fx s (some p)) (s + 1) → p < 20 → OKp (mF A) m (Xs fx s) s (lf s) p → (∀ q, q < p → ¬ OKp (mF A) m (Xs fx s) s (lf s) q) → GO l E 96 337 [some (.ref 25), some (.long x), none, some (.int (nI m)), some (.int dd), some (.int 0), some (.int (nI al)), some (.int (nI (lf s))), some (.int (nI s)), some (.int (nI p)), none] [] (hp B V O) 0 0 Q) : ∀ (d k : Nat) (B : Nat → Nat → Int32), k + d = 20 → fL A B → rX B fx s → (∀ q, q < k → ¬ OKp (mF A) m (Xs fx s) s (lf s) q) → GO l E 96 255 [some (.ref 25), some (.long x), none, some (.int (nI m)), some (.int dd), some (.int 0), some (.int (nI al)), some (.int (nI (lf s))), some (.int (nI s)), some (.int (-1)), some (.int (nI k))] [] (hp B V O) 0 0 Q := by
  intro d
  induction d with
  | zero =>
    intro k B hk hB hX h1
    have no : ¬ OKp (mF A) m (Xs fx s) s (lf s) k → ∀ q, q < k + 1 → ¬ OKp (mF A) m (Xs fx s) s (lf s) q := fun y q hq => by
      by_cases z : q = k
      · subst z; exact y
      · exact h1 q (by omega)
    refine R_iload z96_255 rfl ?_
    refine R_bipush z96_257 (v := 20) (by decide) ?_
    refine R_icmp z96_259 (tn := 337) rfl (fun (h259 : (20 : Int32) ≤ (nI k)) => ?_) (fun q => absurd ((show (20 : Int32) ≤ nI k by rw [show (20 : Int32) = nI 20 by decide, nge (by omega) (by omega)]; omega)) q)
    exact GO_drop 10 (hK0 B hB hX (fun q y => h1 q (by have := y.1; omega) y))
  | succ d ih =>
    intro k B hk hB hX h1
    have no : ¬ OKp (mF A) m (Xs fx s) s (lf s) k → ∀ q, q < k + 1 → ¬ OKp (mF A) m (Xs fx s) s (lf s) q := fun y q hq => by
      by_cases z : q = k
      · subst z; exact y
      · exact h1 q (by omega)
    refine R_iload z96_255 rfl ?_
    refine R_bipush z96_257 (v := 20) (by decide) ?_
    refine R_icmp z96_259 (tn := 337) rfl (fun q => absurd q ((show ¬ (20 : Int32) ≤ nI k by rw [show (20 : Int32) = nI 20 by decide, nge (by omega) (by omega)]; omega))) (fun (h259 : ¬ (20 : Int32) ≤ (nI k)) => ?_)
    refine R_iload z96_262 rfl ?_
    refine R_if z96_264 (tn := 337) rfl (fun q => absurd (show (0 : Int32) ≤ (-1) from q) (by decide)) (fun _ => ?_)
    refine R_aload z96_267 rfl ?_
    refine R_get z96_268 (k := 4) (f := 22) (by decide +kernel) rfl rfl ?_
    refine R_bipush z96_271 (v := 20) (by decide) ?_
    refine R_iload z96_273 rfl ?_
    refine R_imul z96_275 ?_
    refine R_iload z96_276 rfl ?_
    refine R_iadd z96_278 ?_
    refine R_top (y := nI (20 * s + k)) (mpair 20 s k _ (by decide)) ?_
    refine R_zld z96_279 (n := 240) (f := B 42) (v := (B 42 (20 * s + k))) rfl (nin (by omega) (by decide)) (by rw [ncl (by omega)]) ?_
    refine R_if z96_280 (tn := 331) rfl (fun (h280 : ((B 42 (20 * s + k)) : Int32) = 0) => ?_) (fun (h280 : ¬ ((B 42 (20 * s + k)) : Int32) = 0) => ?_)
    · refine R_iinc z96_331 (v := 1) (loc' := [some (.ref 25), some (.long x), none, some (.int (nI m)), some (.int dd), some (.int 0), some (.int (nI al)), some (.int (nI (lf s))), some (.int (nI s)), some (.int (-1)), some (.int (nI (k + 1)))]) rfl rfl (by decide) (by rw [nI_1]; rfl) ?_
      refine R_goto z96_334 (tn := 255) rfl ?_
      exact ih (k + 1) B (by omega) hB hX (no (fun y => absurd (by rw [fL_F hB]; exact y.2.1) (show ¬ mF B s k from fun z => z h280)))
    · refine R_aload z96_283 rfl ?_
      refine R_iload z96_284 rfl ?_
      refine R_cv z96_286 (k := 94) (by decide +kernel) rfl rfl (by decide +kernel) (Nat.le_of_ble_eq_true (by rfl)) rfl ⟨rfl, trivial⟩ ?_
      refine s94 (jBk_ret rfl ⟨rfl, rfl⟩ ?_)
      refine R_if z96_289 (tn := 331) rfl (fun (h289 : (0 : Int32) ≤ (mFx B (nI k) 12)) => ?_) (fun (h289 : ¬ (0 : Int32) ≤ (mFx B (nI k) 12)) => ?_)
      · refine R_iinc z96_331 (v := 1) (loc' := [some (.ref 25), some (.long x), none, some (.int (nI m)), some (.int dd), some (.int 0), some (.int (nI al)), some (.int (nI (lf s))), some (.int (nI s)), some (.int (-1)), some (.int (nI (k + 1)))]) rfl rfl (by decide) (by rw [nI_1]; rfl) ?_
        refine R_goto z96_334 (tn := 255) rfl ?_
        exact ih (k + 1) B (by omega) hB hX (no (fun y => absurd ((mFx_X (by omega) rfl).mp h289) (by rw [rX_X hX (by omega)]; exact y.2.2.1)))
      · refine R_aload z96_292 rfl ?_
        refine R_get z96_293 (k := 4) (f := 20) (by decide +kernel) rfl rfl ?_
        refine R_iload z96_296 rfl ?_
        refine R_iload z96_298 rfl ?_
        refine R_ist z96_300 (n := 12) (f := B 40) (h' := hp (va_up B 40 (upd (B 40) s (nI k))) V O) rfl (nin (by omega) (by decide)) (by rw [ncl (by omega)]; rfl) ?_
        refine R_aload z96_301 rfl ?_
        refine R_iload z96_302 rfl ?_
        refine R_iconst z96_304 (v := 1) (by decide) ?_
        refine R_iadd z96_305 ?_
        refine R_top (y := nI (s + 1)) (nI_1 _) ?_
        refine R_cv z96_306 (k := 95) (by decide +kernel) rfl rfl (by decide +kernel) (Nat.le_of_ble_eq_true (by rfl)) rfl ⟨rfl, trivial⟩ ?_
        refine s95 (A := (va_up B 40 (upd (B 40) s (nI k)))) hV hm (fun B2 km w1 w2 w3 => jBk_ret rfl ⟨rfl, rfl⟩ ?_) (by omega)
        have e40 : B2 40 = upd (B 40) s (nI k) := (w1 40 (by decide) (by decide) (by decide)).trans vb_at
        rw [rX_try hX (by omega) (by omega), show mF (va_up B 40 (upd (B 40) s (nI k))) = mF A from (show mF (va_up B 40 (upd (B 40) s (nI k))) = mF B from rfl).trans (fL_F hB)] at w2
        refine R_iload z96_309 rfl ?_
        refine R_iconst z96_311 (v := 1) (by decide) ?_
        refine R_isub z96_312 ?_
        refine R_icmp z96_313 (tn := 323) rfl (fun (h313 : ¬ ((nI km) : Int32) = ((nI (lf s)) - 1)) => ?_) (fun (h313 : ¬ (¬ ((nI km) : Int32) = ((nI (lf s)) - 1))) => ?_)
        · refine R_aload z96_323 rfl ?_
          refine R_get z96_324 (k := 4) (f := 20) (by decide +kernel) rfl rfl ?_
          refine R_iload z96_327 rfl ?_
          refine R_iconst z96_329 (v := (-1)) (by decide) ?_
          refine R_ist z96_330 (n := 12) (f := B2 40) (h' := hp (va_up B2 40 (upd (B2 40) s (-1))) V O) rfl (nin (by omega) (by decide)) (by rw [ncl (by omega)]; rfl) ?_
          refine R_iinc z96_331 (v := 1) (loc' := [some (.ref 25), some (.long x), none, some (.int (nI m)), some (.int dd), some (.int 0), some (.int (nI al)), some (.int (nI (lf s))), some (.int (nI s)), some (.int (-1)), some (.int (nI (k + 1)))]) rfl rfl (by decide) (by rw [nI_1]; rfl) ?_
          refine R_goto z96_334 (tn := 255) rfl ?_
          exact ih (k + 1) _ (by omega) (fL_40 (fL_3 (fL_40 hB) w1)) (rX_back hX e40) (no (fun ⟨_, _, _, km2, y1, y2⟩ => h313 ((eqm w3 hL).mpr (by rw [isMx_u w2 y2]; exact y1))))
        · refine R_iload z96_316 rfl ?_
          refine R_istore z96_318 (loc' := [some (.ref 25), some (.long x), none, some (.int (nI m)), some (.int dd), some (.int 0), some (.int (nI al)), some (.int (nI (lf s))), some (.int (nI s)), some (.int (nI k)), some (.int (nI k))]) rfl rfl ?_
          refine R_goto z96_320 (tn := 331) rfl ?_
          have fin := hK1 B2 k (fL_3 (fL_40 hB) w1) (rX_yes hX (by omega) e40) (by omega) ⟨by omega, by rw [← fL_F hB]; exact h280, by rw [← rX_X hX (by omega)]; exact fun y => h289 ((mFx_X (by omega) rfl).mpr y), km, (eqm w3 hL).mp (Classical.not_not.mp h313), w2⟩ (fun q hq => h1 q hq)
          refine R_iinc z96_331 (v := 1) (loc' := [some (.ref 25), some (.long x), none, some (.int (nI m)), some (.int dd), some (.int 0), some (.int (nI al)), some (.int (nI (lf s))), some (.int (nI s)), some (.int (nI k)), some (.int (nI (k + 1)))]) rfl rfl (by decide) (by rw [nI_1]; rfl) ?_
          refine R_goto z96_334 (tn := 255) rfl ?_
          refine R_iload z96_255 rfl ?_
          refine R_bipush z96_257 (v := 20) (by decide) ?_
          refine R_icmp z96_259 (tn := 337) rfl (fun _ => ?_) (fun _ => ?_)
          · exact GO_drop 10 fin
          · refine R_iload z96_262 rfl ?_
            refine R_if z96_264 (tn := 337) rfl (fun _ => GO_drop 10 fin) (fun q => absurd (show (0 : Int32) ≤ nI k from Int32.not_lt.mp (nI_pos (by omega))) q)
theorem s96g_lp {l : Launch} {E : jEnv} {A : Nat → Nat → Int32} {V : Nat → Int32} {O : Nat → Int64} {Q : jO → List jC → Prop} {x : Int64} {dd : Int32} {m al : Nat} (hV : V 11 = nI m) (hm : m ≤ 12) (hK : ∀ B fx lf, fL A B → rX B fx m → First (mF A) m fx lf m → lf 0 = al → GO l E 96 358 [some (.ref 25), some (.long x), none, some (.int (nI m)), some (.int dd), some (.int 0), some (.int (nI al)), none, none, none, none] [] (hp B V O) 0 0 Q) : ∀ (d k : Nat) (B : Nat → Nat → Int32) (fx : Nat → Option Nat) (lf : Nat → Nat), k + d = m → fL A B → rX B fx k → First (mF A) m fx lf k → lf k ≤ 20 → lf 0 = al → GO l E 96 243 [some (.ref 25), some (.long x), none, some (.int (nI m)), some (.int dd), some (.int 0), some (.int (nI al)), some (.int (nI (lf k))), some (.int (nI k)), none, none] [] (hp B V O) 0 0 Q := by
  intro d
  induction d with
  | zero =>
    intro k B fx lf hk hB hX hF hL h0
    refine R_iload z96_243 rfl ?_
    refine R_iload z96_245 rfl ?_
    refine R_icmp z96_246 (tn := 358) rfl (fun (h246 : ((nI m) : Int32) ≤ (nI k)) => ?_) (fun q => absurd ((show nI m ≤ nI k by rw [nge (by omega) (by omega)]; omega)) q)
    have e9 : k = m := by omega
    subst e9
    exact GO_drop 7 (GO_drop 8 (GO_drop 9 (GO_drop 10 (hK B fx lf hB hX hF h0))))
  | succ d ih =>
    intro k B fx lf hk hB hX hF hL h0
    refine R_iload z96_243 rfl ?_
    refine R_iload z96_245 rfl ?_
    refine R_icmp z96_246 (tn := 358) rfl (fun q => absurd q ((show ¬ nI m ≤ nI k by rw [nge (by omega) (by omega)]; omega))) (fun (h246 : ¬ ((nI m) : Int32) ≤ (nI k)) => ?_)
    refine R_iconst z96_249 (v := (-1)) (by decide) ?_
    refine R_istore z96_250 (loc' := [some (.ref 25), some (.long x), none, some (.int (nI m)), some (.int dd), some (.int 0), some (.int (nI al)), some (.int (nI (lf k))), some (.int (nI k)), some (.int (-1)), none]) rfl rfl ?_
    refine R_iconst z96_252 (v := 0) (by decide) ?_
    refine R_istore z96_253 (loc' := [some (.ref 25), some (.long x), none, some (.int (nI m)), some (.int dd), some (.int 0), some (.int (nI al)), some (.int (nI (lf k))), some (.int (nI k)), some (.int (-1)), some (.int 0)]) rfl rfl ?_
    refine s96f_lp (s := k) (al := al) (lf := lf) (fx := fx) hV hm (by omega) hL ?_ ?_ 20 0 B (by omega) hB hX (fun q hq => absurd hq (by omega))
    · intro B2 hB2 hX2 hno
      refine R_iload z96_337 rfl ?_
      refine R_iload z96_339 rfl ?_
      refine R_if z96_341 (tn := 348) rfl (fun q => absurd (show (0 : Int32) ≤ -1 from q) (by decide)) (fun _ => ?_)
      refine R_iconst z96_344 (v := 0) (by decide) ?_
      refine R_goto z96_345 (tn := 349) rfl ?_
      refine R_isub z96_349 ?_
      refine R_top (y := nI (nup lf (k + 1) (lf k) (k + 1))) (by rw [nup_at]; exact Int32.sub_zero _) ?_
      refine R_istore z96_350 (loc' := [some (.ref 25), some (.long x), none, some (.int (nI m)), some (.int dd), some (.int 0), some (.int (nI al)), some (.int (nI (nup lf (k + 1) (lf k) (k + 1)))), some (.int (nI k)), some (.int (-1)), none]) rfl rfl ?_
      refine R_iinc z96_352 (v := 1) (loc' := [some (.ref 25), some (.long x), none, some (.int (nI m)), some (.int dd), some (.int 0), some (.int (nI al)), some (.int (nI (nup lf (k + 1) (lf k) (k + 1)))), some (.int (nI (k + 1))), some (.int (-1)), none]) rfl rfl (by decide) (by rw [nI_1]; rfl) ?_
      refine R_goto z96_355 (tn := 243) rfl ?_
      exact GO_drop 9 (ih (k + 1) B2 (gup fx k none) (nup lf (k + 1) (lf k)) (by omega) hB2 (rX_no hX2) (First_add hF (Or.inr ⟨gup_at, by rw [Xs_gup]; exact hno, rfl⟩)) (by rw [nup_at]; exact hL) (by rw [nup_ne (by omega)]; exact h0))
    · intro B2 p hB2 hX2 hp hok hmin
      have hlf : ∃ w, w + 1 = lf k := by
        obtain ⟨_, _, _, w, w1, _⟩ := hok
        exact ⟨w, w1⟩
      obtain ⟨w, hw⟩ := hlf
      refine R_iload z96_337 rfl ?_
      refine R_iload z96_339 rfl ?_
      refine R_if z96_341 (tn := 348) rfl (fun _ => ?_) (fun q => absurd (show (0 : Int32) ≤ nI p from Int32.not_lt.mp (nI_pos (by omega))) q)
      refine R_iconst z96_348 (v := 1) (by decide) ?_
      refine R_isub z96_349 ?_
      refine R_top (y := nI (nup lf (k + 1) w (k + 1))) (by rw [nup_at]; exact ((eqm (by omega) hL).mpr hw).symm) ?_
      refine R_istore z96_350 (loc' := [some (.ref 25), some (.long x), none, some (.int (nI m)), some (.int dd), some (.int 0), some (.int (nI al)), some (.int (nI (nup lf (k + 1) w (k + 1)))), some (.int (nI k)), some (.int (nI p)), none]) rfl rfl ?_
      refine R_iinc z96_352 (v := 1) (loc' := [some (.ref 25), some (.long x), none, some (.int (nI m)), some (.int dd), some (.int 0), some (.int (nI al)), some (.int (nI (nup lf (k + 1) w (k + 1)))), some (.int (nI (k + 1))), some (.int (nI p)), none]) rfl rfl (by decide) (by rw [nI_1]; rfl) ?_
      refine R_goto z96_355 (tn := 243) rfl ?_
      exact GO_drop 9 (ih (k + 1) B2 (gup fx k (some p)) (nup lf (k + 1) w) (by omega) hB2 hX2 (First_add hF (Or.inl ⟨p, gup_at, by rw [Xs_gup]; exact hok, by rw [Xs_gup]; exact hmin, hw⟩)) (by rw [nup_at]; omega) (by rw [nup_ne (by omega)]; exact h0))
theorem s96h_lp {l : Launch} {E : jEnv} {A : Nat → Nat → Int32} {V : Nat → Int32} {O : Nat → Int64} {Q : jO → List jC → Prop} {x : Int64} {dd : Int32} {m al : Nat} (hQ : ∀ B, fL A B → B 40 = A 40 → (∀ s, s < 12 → B 39 s = B 40 s) → Q (.inl (some (.int (nI al)))) (hp B V O)) : ∀ (d k : Nat) (B : Nat → Nat → Int32), k + d = 12 → fL A B → B 40 = A 40 → (∀ s, s < k → B 39 s = B 40 s) → GO l E 96 361 [some (.ref 25), some (.long x), none, some (.int (nI m)), some (.int dd), some (.int 0), some (.int (nI al)), none, some (.int (nI k)), none, none] [] (hp B V O) 0 0 Q := by
  intro d
  induction d with
  | zero =>
    intro k B hk hB e40 h1
    refine R_iload z96_361 rfl ?_
    refine R_bipush z96_363 (v := 12) (by decide) ?_
    refine R_icmp z96_365 (tn := 388) rfl (fun (h365 : (12 : Int32) ≤ (nI k)) => ?_) (fun q => absurd ((show (12 : Int32) ≤ nI k by rw [show (12 : Int32) = nI 12 by decide, nge (by omega) (by omega)]; omega)) q)
    refine R_iload z96_388 rfl ?_
    exact R_iret z96_390 (Or.inl (by decide +kernel)) ⟨Nat.zero_le _, Nat.zero_le _⟩ (hQ B hB e40 (fun s hs => h1 s (by omega)))
  | succ d ih =>
    intro k B hk hB e40 h1
    refine R_iload z96_361 rfl ?_
    refine R_bipush z96_363 (v := 12) (by decide) ?_
    refine R_icmp z96_365 (tn := 388) rfl (fun q => absurd q ((show ¬ (12 : Int32) ≤ nI k by rw [show (12 : Int32) = nI 12 by decide, nge (by omega) (by omega)]; omega))) (fun (h365 : ¬ (12 : Int32) ≤ (nI k)) => ?_)
    refine R_aload z96_368 rfl ?_
    refine R_get z96_369 (k := 4) (f := 19) (by decide +kernel) rfl rfl ?_
    refine R_iload z96_372 rfl ?_
    refine R_aload z96_374 rfl ?_
    refine R_get z96_375 (k := 4) (f := 20) (by decide +kernel) rfl rfl ?_
    refine R_iload z96_378 rfl ?_
    refine R_ild z96_380 (n := 12) (f := B 40) (v := (B 40 k)) rfl (nin (by omega) (by decide)) (by rw [ncl (by omega)]) ?_
    refine R_ist z96_381 (n := 12) (f := B 39) (h' := hp (va_up B 39 (upd (B 39) k (B 40 k))) V O) rfl (nin (by omega) (by decide)) (by rw [ncl (by omega)]; rfl) ?_
    refine R_iinc z96_382 (v := 1) (loc' := [some (.ref 25), some (.long x), none, some (.int (nI m)), some (.int dd), some (.int 0), some (.int (nI al)), none, some (.int (nI (k + 1))), none, none]) rfl rfl (by decide) (by rw [nI_1]; rfl) ?_
    refine R_goto z96_385 (tn := 361) rfl ?_
    refine ih (k + 1) _ (by omega) (fL_39 hB) e40 (fun p hp => ?_)
    show upd (B 39) k (B 40 k) p = B 40 p
    by_cases z : p = k
    · subst z; exact upd_at
    · rw [upd_ne z]; exact h1 p (by omega)
theorem s96 {l : Launch} {E : jEnv} {A : Nat → Nat → Int32} {V : Nat → Int32} {O : Nat → Int64} {Q : jO → List jC → Prop} {x : Int64} {n dd : Int32} {m nc r : Nat} (hW : mWf A V nc r) (hm : told n m) (h1 : ¬ (∀ j, j < m → ¬ sBad V x j) → Q (.inl (some (.int 0))) (hp A (va_up V 6 1) O)) (h2 : (∀ j, j < m → ¬ sBad V x j) → ¬ (jrg n 0 12 ∧ jrg dd 0 2100) → Q (.inl (some (.int 0))) (hp A (va_up V 6 2) O)) (hQ : (∀ j, j < m → ¬ sBad V x j) → jrg n 0 12 → jrg dd 0 2100 → ∀ B fx lf, fp A B → First (mF B) m fx lf m → (∀ s, s < m → rP (B 39 s) (fx s)) → (∀ s p, s < m → p < 20 → (mF B s p ↔ mFit A V r x dd s p)) → Q (.inl (some (.int (nI (lf 0))))) (hp B (va_up (va_up V 6 0) 11 (nI m)) O)) : GO l E 96 0 [some (.ref 25), some (.long x), none, some (.int n), some (.int dd), none, none, none, none, none, none] [] (hp A V O) 0 0 Q := by
  refine R_iconst z96_0 (v := 0) (by decide) ?_
  refine R_istore z96_1 (loc' := [some (.ref 25), some (.long x), none, some (.int n), some (.int dd), some (.int 0), none, none, none, none, none]) rfl rfl ?_
  refine R_iconst z96_3 (v := 0) (by decide) ?_
  refine R_istore z96_4 (loc' := [some (.ref 25), some (.long x), none, some (.int n), some (.int dd), some (.int 0), some (.int 0), none, none, none, none]) rfl rfl ?_
  refine s96a_lp hm hW.1 hW.2.1 ?_ m 0 (by omega)
  by_cases hu : mUn V x m = 0
  · have hu2 := (mUn_iff m).mp hu
    rw [hu]
    refine s96y (h2 hu2) (fun g1 g2 => ?_)
    rw [told_in hm g1]
    refine R_iconst z96_99 (v := 0) (by decide) ?_
    refine R_istore z96_100 (loc' := [some (.ref 25), some (.long x), none, some (.int (nI m)), some (.int dd), some (.int 0), some (.int 0), none, none, none, none]) rfl rfl ?_
    refine s96c_lp (A := A) ?_ 12 0 A (by omega) (fun _ _ => rfl) (fun _ h => absurd h (by omega))
    intro B1 hB1 h01
    refine R_iconst z96_123 (v := 0) (by decide) ?_
    refine R_istore z96_124 (loc' := [some (.ref 25), some (.long x), none, some (.int (nI m)), some (.int dd), some (.int 0), some (.int 0), none, none, none, none]) rfl rfl ?_
    refine s96e_lp hW hm.1 ?_ m 0 B1 (by omega) hB1 h01 (fun s2 p hp y => absurd y (by omega))
    intro B2 hB2 h02 h12
    refine R_aload z96_229 rfl ?_
    refine R_iconst z96_230 (v := 0) (by decide) ?_
    refine R_cv z96_231 (k := 95) (by decide +kernel) rfl rfl (by decide +kernel) (Nat.le_of_ble_eq_true (by rfl)) rfl ⟨rfl, trivial⟩ ?_
    refine s95 (a := 0) (A := B2) (n := m) rfl hm.1 (fun B3 al w1 w2 w3 => ?_) (by omega)
    refine jBk_ret rfl ⟨rfl, rfl⟩ ?_
    refine R_istore z96_234 (loc' := [some (.ref 25), some (.long x), none, some (.int (nI m)), some (.int dd), some (.int 0), some (.int (nI al)), none, none, none, none]) rfl rfl ?_
    refine R_iload z96_236 rfl ?_
    refine R_istore z96_238 (loc' := [some (.ref 25), some (.long x), none, some (.int (nI m)), some (.int dd), some (.int 0), some (.int (nI al)), some (.int (nI al)), none, none, none]) rfl rfl ?_
    refine R_iconst z96_240 (v := 0) (by decide) ?_
    refine R_istore z96_241 (loc' := [some (.ref 25), some (.long x), none, some (.int (nI m)), some (.int dd), some (.int 0), some (.int (nI al)), some (.int (nI al)), some (.int 0), none, none]) rfl rfl ?_
    have hX0 : rX B3 (fun _ => none) 0 := fun t ht => by
      rw [if_neg (by omega), w1 40 (by decide) (by decide) (by decide)]; exact h02 t ht
    have hx3 : mX B2 = fun _ => False := by
      rw [← f3_X w1, rX_X hX0 (by omega)]
      funext q
      exact propext ⟨fun ⟨t, ht, _⟩ => absurd ht (by omega), fun z => z.elim⟩
    refine s96g_lp (A := B2) (al := al) (m := m) rfl hm.1 ?_ m 0 B3 (fun _ => none) (fun _ => al) (by omega) (fun a _ _ z3 z4 z5 => w1 a z3 z4 z5) hX0 ⟨by rw [hx3] at w2; exact w2, fun _ h => absurd h (by omega)⟩ w3 rfl
    intro B4 fx lf hB4 hX4 hF4 hl0
    refine R_iconst z96_358 (v := 0) (by decide) ?_
    refine R_istore z96_359 (loc' := [some (.ref 25), some (.long x), none, some (.int (nI m)), some (.int dd), some (.int 0), some (.int (nI al)), none, some (.int 0), none, none]) rfl rfl ?_
    refine s96h_lp (A := B4) (al := al) ?_ 12 0 B4 (by omega) (fun _ _ _ _ _ _ => rfl) rfl (fun _ h => absurd h (by omega))
    intro B5 hB5 e405 h395
    have hB52 : fL B2 B5 := fun a z1 z2 z3 z4 z5 => by rw [hB5 a z1 z2 z3 z4 z5, hB4 a z1 z2 z3 z4 z5]
    rw [← hl0]
    refine hQ hu2 g1 g2 B5 fx lf (fun a ha => ?_) (by rw [fL_F hB52]; exact hF4) (fun s hs => ?_) (fun s p hs hp => ?_)
    · rw [hB52 a (by omega) (by omega) (by omega) (by omega) (by omega)]; exact hB2 a ha
    · have h12m := hm.1
      rw [h395 s (by omega), e405]
      have := hX4 s (by omega)
      rw [if_pos hs] at this; exact this
    · rw [fL_F hB52]; exact h12 s p hp (Or.inl hs)
  · exact s96x hu (h1 (fun z => hu ((mUn_iff m).mpr z)))

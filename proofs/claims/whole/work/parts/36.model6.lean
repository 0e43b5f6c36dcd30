def mGo (A : Nat → Nat → Int32) (s : Int32) (k : Nat) : Prop := ¬ A 30 k = 0 ∧ jbit s (nI (k / 16)) ∧ ¬ jbit s (nI (k % 16))
/-- o is c, or needed by c, also by way of others -/
def mReach (A : Nat → Nat → Int32) (c o : Nat) : Prop := ∀ S : Nat → Prop, S c → (∀ a b, a < 16 → b < 16 → S a → ¬ A 30 (16 * a + b) = 0 → S b) → S o
theorem mReach_0 {A : Nat → Nat → Int32} {c : Nat} : mReach A c c := fun _ h _ => h
theorem mReach_s {A : Nat → Nat → Int32} {c a b : Nat} (h : mReach A c a) (ha : a < 16) (hb : b < 16) (e : ¬ A 30 (16 * a + b) = 0) : mReach A c b := fun S h0 hs => hs a b ha hb (h S h0 hs) e
def ucn (s : Int32) : Nat → Nat
  | 0 => 0
  | k + 1 => ucn s k + (if jbit s (nI k) then 0 else 1)
theorem ucn_le {s t : Int32} : ∀ k, (∀ j, j < k → jbit s (nI j) → jbit t (nI j)) → ucn t k ≤ ucn s k
  | 0, _ => Nat.le_refl _
  | k + 1, h => by
    have := ucn_le k (fun j hj => h j (by omega))
    unfold ucn
    by_cases e : jbit s (nI k)
    · rw [if_pos e, if_pos (h k (by omega) e)]; omega
    · rw [if_neg e]
      split <;> omega
theorem ucn_lt {s t : Int32} {i : Nat} (h1 : ¬ jbit s (nI i)) (h2 : jbit t (nI i)) : ∀ k, i < k → (∀ j, j < k → jbit s (nI j) → jbit t (nI j)) → ucn t k < ucn s k
  | 0, hi, _ => absurd hi (by omega)
  | k + 1, hi, h => by
    unfold ucn
    by_cases e : i = k
    · subst e
      have := ucn_le i (fun j hj => h j (by omega))
      rw [if_neg h1, if_pos h2]; omega
    · have := ucn_lt h1 h2 k (by omega) (fun j hj => h j (by omega))
      by_cases e : jbit s (nI k)
      · rw [if_pos e, if_pos (h k (by omega) e)]; omega
      · rw [if_neg e]
        split <;> omega
theorem nd16 {k : Nat} (hk : k < 256) : nI k / 16 = nI (k / 16) := by
  have h : ∀ k : Fin 256, nI k.1 / 16 = nI (k.1 / 16) := by decide +kernel
  exact h ⟨k, hk⟩
theorem nr16 {k : Nat} (hk : k < 256) : nI k - nI k / 16 * 16 = nI (k % 16) := by
  have h : ∀ k : Fin 256, nI k.1 - nI k.1 / 16 * 16 = nI (k.1 % 16) := by decide +kernel
  exact h ⟨k, hk⟩
def mRI (A : Nat → Nat → Int32) (c : Nat) (s : Int32) : Prop := jbit s (nI c) ∧ ∀ j, j < 16 → jbit s (nI j) → mReach A c j
theorem mRI_s {A : Nat → Nat → Int32} {c k : Nat} {s : Int32} (hc : c < 16) (hk : k < 256) (h : mRI A c s) (g : mGo A s k) : mRI A c (s ||| (1 : Int32) <<< (nI (k % 16) &&& 31)) := by
  refine ⟨(jbit_or (by omega)).mpr (Or.inl h.1), fun j hj z => ?_⟩
  rcases (jbit_or (by omega)).mp z with z | z
  · exact h.2 j hj z
  · rw [jbit_one (by omega) (by omega)] at z
    subst z
    exact mReach_s (h.2 (k / 16) (by omega) g.2.1) (by omega) (by omega) (by rw [show 16 * (k / 16) + k % 16 = k by omega]; exact g.1)
theorem ucn_s {A : Nat → Nat → Int32} {k : Nat} {s : Int32} (g : mGo A s k) : ucn (s ||| (1 : Int32) <<< (nI (k % 16) &&& 31)) 16 < ucn s 16 :=
  ucn_lt g.2.2 ((jbit_or (by omega)).mpr (Or.inr ((jbit_one (by omega) (by omega)).mpr rfl))) 16 (by omega) (fun _ _ z => (jbit_or (by omega)).mpr (Or.inl z))
theorem mRI_end {A : Nat → Nat → Int32} {c o : Nat} {s : Int32} (ho : o < 16) (h : mRI A c s) (hk : ∀ k, k < 256 → ¬ mGo A s k) : jbit s (nI o) ↔ mReach A c o := by
  refine ⟨h.2 o ho, fun z => ?_⟩
  refine z (fun j => jbit s (nI j)) h.1 (fun a b ha hb h1 e => ?_)
  refine Classical.byContradiction fun h2 => hk (16 * a + b) (by omega) ⟨e, ?_, ?_⟩
  · rw [show (16 * a + b) / 16 = a by omega]; exact h1
  · rw [show (16 * a + b) % 16 = b by omega]; exact h2
def mSI (A : Nat → Nat → Int32) (s0 s m : Int32) (k : Nat) : Prop := (m = 0 ∧ s = s0 ∧ ∀ j, j < k → ¬ mGo A s0 j) ∨ (m = 1 ∧ ucn s 16 < ucn s0 16)
theorem mSI_n {A : Nat → Nat → Int32} {s0 s m : Int32} {k : Nat} (h : mSI A s0 s m k) (hm : ¬ m = 0) : mSI A s0 s 1 (k + 1) := h.elim (fun z => absurd z.1 hm) (fun z => Or.inr ⟨rfl, z.2⟩)
theorem mSI_z {A : Nat → Nat → Int32} {s0 s m : Int32} {k : Nat} (h : mSI A s0 s m k) (hm : m = 0) (g : ¬ mGo A s k) : mSI A s0 s 0 (k + 1) := h.elim (fun z => Or.inl ⟨rfl, z.2.1, fun j hj => by
  rcases Nat.lt_succ_iff_lt_or_eq.mp hj with q | q
  · exact z.2.2 j q
  · rw [q, ← z.2.1]; exact g⟩) (fun z => absurd (z.1.symm.trans hm) (by decide))
theorem mSI_g {A : Nat → Nat → Int32} {s0 s m : Int32} {k : Nat} (h : mSI A s0 s m k) (g : mGo A s k) : mSI A s0 (s ||| (1 : Int32) <<< (nI (k % 16) &&& 31)) 1 (k + 1) := by
  have := ucn_s g
  rcases h with z | z
  · exact Or.inr ⟨rfl, by rw [← z.2.1]; exact this⟩
  · exact Or.inr ⟨rfl, by omega⟩
theorem s68_lp {l : Launch} {E : jEnv} {A : Nat → Nat → Int32} {V : Nat → Int32} {O : Nat → Int64} {Q : jO → List jC → Prop} {c : Nat} {o s0 : Int32} (hc : c < 16) (hK : ∀ s m, mRI A c s → mSI A s0 s m 256 → GO l E 68 7 [some (.ref 25), some (.int (nI c)), some (.int o), some (.int s), some (.int m), none, none] [] (hp A V O) 0 0 Q) : ∀ (d k : Nat) (s m : Int32), k + d = 256 → mRI A c s → mSI A s0 s m k → GO l E 68 18 [some (.ref 25), some (.int (nI c)), some (.int o), some (.int s), some (.int m), some (.int (nI k)), none] [] (hp A V O) 0 0 Q := by
  intro d
  induction d with
  | zero =>
    intro k s m hk hR hI
    refine R_iload z68_18 rfl ?_
    refine R_sipush z68_20 (v := 256) (by decide) ?_
    refine R_icmp z68_23 (tn := 110) rfl (fun (h23 : (256 : Int32) ≤ (nI k)) => ?_) (fun q => absurd ((show (256 : Int32) ≤ nI k by rw [show (256 : Int32) = nI 256 by decide, nge (by omega) (by omega)]; omega)) q)
    refine R_goto z68_110 (tn := 7) rfl ?_
    exact GO_drop 5 (hK s m hR (by rw [show (256 : Nat) = k by omega]; exact hI))
  | succ d ih =>
    intro k s m hk hR hI
    refine R_iload z68_18 rfl ?_
    refine R_sipush z68_20 (v := 256) (by decide) ?_
    refine R_icmp z68_23 (tn := 110) rfl (fun q => absurd q ((show ¬ (256 : Int32) ≤ nI k by rw [show (256 : Int32) = nI 256 by decide, nge (by omega) (by omega)]; omega))) (fun (h23 : ¬ (256 : Int32) ≤ (nI k)) => ?_)
    refine R_aload z68_26 rfl ?_
    refine R_get z68_27 (k := 4) (f := 8) (by decide +kernel) rfl rfl ?_
    refine R_iload z68_30 rfl ?_
    refine R_zld z68_32 (n := 256) (f := A 30) (v := (A 30 k)) rfl (nin (by omega) (by decide)) (by rw [ncl (by omega)]) ?_
    refine R_if z68_33 (tn := 65) rfl (fun (h33 : ((A 30 k) : Int32) = 0) => ?_) (fun (h33 : ¬ ((A 30 k) : Int32) = 0) => ?_)
    · refine R_iconst z68_65 (v := 0) (by decide) ?_
      refine R_istore z68_66 (loc' := [some (.ref 25), some (.int (nI c)), some (.int o), some (.int s), some (.int m), some (.int (nI k)), some (.int 0)]) rfl rfl ?_
      refine R_iload z68_68 rfl ?_
      refine R_iload z68_69 rfl ?_
      refine R_if z68_71 (tn := 84) rfl (fun _ => ?_) (fun q => absurd (show (0 : Int32) = 0 by decide) q)
      refine R_iconst z68_84 (v := 0) (by decide) ?_
      refine R_ior z68_85 ?_
      refine R_top (y := s) (Int32.or_zero) ?_
      refine R_istore z68_86 (loc' := [some (.ref 25), some (.int (nI c)), some (.int o), some (.int s), some (.int m), some (.int (nI k)), some (.int 0)]) rfl rfl ?_
      refine R_iload z68_87 rfl ?_
      refine R_if z68_89 (tn := 97) rfl (fun (h89 : ¬ (m : Int32) = 0) => ?_) (fun (h89 : ¬ (¬ (m : Int32) = 0)) => ?_)
      · refine R_iconst z68_97 (v := 1) (by decide) ?_
        refine R_goto z68_98 (tn := 102) rfl ?_
        refine R_istore z68_102 (loc' := [some (.ref 25), some (.int (nI c)), some (.int o), some (.int s), some (.int 1), some (.int (nI k)), some (.int 0)]) rfl rfl ?_
        refine R_iinc z68_104 (v := 1) (loc' := [some (.ref 25), some (.int (nI c)), some (.int o), some (.int s), some (.int 1), some (.int (nI (k + 1))), some (.int 0)]) rfl rfl (by decide) (by rw [nI_1]; rfl) ?_
        refine R_goto z68_107 (tn := 18) rfl ?_
        exact GO_drop 6 (ih (k + 1) _ _ (by omega) hR (mSI_n hI h89))
      · refine R_iload z68_92 rfl ?_
        refine R_if z68_94 (tn := 101) rfl (fun _ => ?_) (fun q => absurd (show (0 : Int32) = 0 by decide) q)
        refine R_iconst z68_101 (v := 0) (by decide) ?_
        refine R_istore z68_102 (loc' := [some (.ref 25), some (.int (nI c)), some (.int o), some (.int s), some (.int 0), some (.int (nI k)), some (.int 0)]) rfl rfl ?_
        refine R_iinc z68_104 (v := 1) (loc' := [some (.ref 25), some (.int (nI c)), some (.int o), some (.int s), some (.int 0), some (.int (nI (k + 1))), some (.int 0)]) rfl rfl (by decide) (by rw [nI_1]; rfl) ?_
        refine R_goto z68_107 (tn := 18) rfl ?_
        exact GO_drop 6 (ih (k + 1) _ _ (by omega) hR (mSI_z hI (Classical.not_not.mp h89) (fun z => z.1 h33)))
    · refine R_iload z68_36 rfl ?_
      refine R_iload z68_37 rfl ?_
      refine R_bipush z68_39 (v := 16) (by decide) ?_
      refine R_idiv z68_41 (by decide) ?_
      refine R_top (y := nI (k / 16)) (nd16 (by omega)) ?_
      refine R_ishr z68_42 ?_
      refine R_iconst z68_43 (v := 1) (by decide) ?_
      refine R_iand z68_44 ?_
      refine R_iconst z68_45 (v := 1) (by decide) ?_
      refine R_icmp z68_46 (tn := 65) rfl (fun (h46 : ¬ (((s >>> ((nI (k / 16)) &&& 31)) &&& 1) : Int32) = 1) => ?_) (fun (h46 : ¬ (¬ (((s >>> ((nI (k / 16)) &&& 31)) &&& 1) : Int32) = 1)) => ?_)
      · refine R_iconst z68_65 (v := 0) (by decide) ?_
        refine R_istore z68_66 (loc' := [some (.ref 25), some (.int (nI c)), some (.int o), some (.int s), some (.int m), some (.int (nI k)), some (.int 0)]) rfl rfl ?_
        refine R_iload z68_68 rfl ?_
        refine R_iload z68_69 rfl ?_
        refine R_if z68_71 (tn := 84) rfl (fun _ => ?_) (fun q => absurd (show (0 : Int32) = 0 by decide) q)
        refine R_iconst z68_84 (v := 0) (by decide) ?_
        refine R_ior z68_85 ?_
        refine R_top (y := s) (Int32.or_zero) ?_
        refine R_istore z68_86 (loc' := [some (.ref 25), some (.int (nI c)), some (.int o), some (.int s), some (.int m), some (.int (nI k)), some (.int 0)]) rfl rfl ?_
        refine R_iload z68_87 rfl ?_
        refine R_if z68_89 (tn := 97) rfl (fun (h89 : ¬ (m : Int32) = 0) => ?_) (fun (h89 : ¬ (¬ (m : Int32) = 0)) => ?_)
        · refine R_iconst z68_97 (v := 1) (by decide) ?_
          refine R_goto z68_98 (tn := 102) rfl ?_
          refine R_istore z68_102 (loc' := [some (.ref 25), some (.int (nI c)), some (.int o), some (.int s), some (.int 1), some (.int (nI k)), some (.int 0)]) rfl rfl ?_
          refine R_iinc z68_104 (v := 1) (loc' := [some (.ref 25), some (.int (nI c)), some (.int o), some (.int s), some (.int 1), some (.int (nI (k + 1))), some (.int 0)]) rfl rfl (by decide) (by rw [nI_1]; rfl) ?_
          refine R_goto z68_107 (tn := 18) rfl ?_
          exact GO_drop 6 (ih (k + 1) _ _ (by omega) hR (mSI_n hI h89))
        · refine R_iload z68_92 rfl ?_
          refine R_if z68_94 (tn := 101) rfl (fun _ => ?_) (fun q => absurd (show (0 : Int32) = 0 by decide) q)
          refine R_iconst z68_101 (v := 0) (by decide) ?_
          refine R_istore z68_102 (loc' := [some (.ref 25), some (.int (nI c)), some (.int o), some (.int s), some (.int 0), some (.int (nI k)), some (.int 0)]) rfl rfl ?_
          refine R_iinc z68_104 (v := 1) (loc' := [some (.ref 25), some (.int (nI c)), some (.int o), some (.int s), some (.int 0), some (.int (nI (k + 1))), some (.int 0)]) rfl rfl (by decide) (by rw [nI_1]; rfl) ?_
          refine R_goto z68_107 (tn := 18) rfl ?_
          exact GO_drop 6 (ih (k + 1) _ _ (by omega) hR (mSI_z hI (Classical.not_not.mp h89) (fun z => h46 (jbit_1.mp z.2.1))))
      · refine R_iload z68_49 rfl ?_
        refine R_iload z68_50 rfl ?_
        refine R_bipush z68_52 (v := 16) (by decide) ?_
        refine R_irem z68_54 (by decide) ?_
        refine R_top (y := nI (k % 16)) (nr16 (by omega)) ?_
        refine R_ishr z68_55 ?_
        refine R_iconst z68_56 (v := 1) (by decide) ?_
        refine R_iand z68_57 ?_
        refine R_if z68_58 (tn := 65) rfl (fun (h58 : ¬ (((s >>> ((nI (k % 16)) &&& 31)) &&& 1) : Int32) = 0) => ?_) (fun (h58 : ¬ (¬ (((s >>> ((nI (k % 16)) &&& 31)) &&& 1) : Int32) = 0)) => ?_)
        · refine R_iconst z68_65 (v := 0) (by decide) ?_
          refine R_istore z68_66 (loc' := [some (.ref 25), some (.int (nI c)), some (.int o), some (.int s), some (.int m), some (.int (nI k)), some (.int 0)]) rfl rfl ?_
          refine R_iload z68_68 rfl ?_
          refine R_iload z68_69 rfl ?_
          refine R_if z68_71 (tn := 84) rfl (fun _ => ?_) (fun q => absurd (show (0 : Int32) = 0 by decide) q)
          refine R_iconst z68_84 (v := 0) (by decide) ?_
          refine R_ior z68_85 ?_
          refine R_top (y := s) (Int32.or_zero) ?_
          refine R_istore z68_86 (loc' := [some (.ref 25), some (.int (nI c)), some (.int o), some (.int s), some (.int m), some (.int (nI k)), some (.int 0)]) rfl rfl ?_
          refine R_iload z68_87 rfl ?_
          refine R_if z68_89 (tn := 97) rfl (fun (h89 : ¬ (m : Int32) = 0) => ?_) (fun (h89 : ¬ (¬ (m : Int32) = 0)) => ?_)
          · refine R_iconst z68_97 (v := 1) (by decide) ?_
            refine R_goto z68_98 (tn := 102) rfl ?_
            refine R_istore z68_102 (loc' := [some (.ref 25), some (.int (nI c)), some (.int o), some (.int s), some (.int 1), some (.int (nI k)), some (.int 0)]) rfl rfl ?_
            refine R_iinc z68_104 (v := 1) (loc' := [some (.ref 25), some (.int (nI c)), some (.int o), some (.int s), some (.int 1), some (.int (nI (k + 1))), some (.int 0)]) rfl rfl (by decide) (by rw [nI_1]; rfl) ?_
            refine R_goto z68_107 (tn := 18) rfl ?_
            exact GO_drop 6 (ih (k + 1) _ _ (by omega) hR (mSI_n hI h89))
          · refine R_iload z68_92 rfl ?_
            refine R_if z68_94 (tn := 101) rfl (fun _ => ?_) (fun q => absurd (show (0 : Int32) = 0 by decide) q)
            refine R_iconst z68_101 (v := 0) (by decide) ?_
            refine R_istore z68_102 (loc' := [some (.ref 25), some (.int (nI c)), some (.int o), some (.int s), some (.int 0), some (.int (nI k)), some (.int 0)]) rfl rfl ?_
            refine R_iinc z68_104 (v := 1) (loc' := [some (.ref 25), some (.int (nI c)), some (.int o), some (.int s), some (.int 0), some (.int (nI (k + 1))), some (.int 0)]) rfl rfl (by decide) (by rw [nI_1]; rfl) ?_
            refine R_goto z68_107 (tn := 18) rfl ?_
            exact GO_drop 6 (ih (k + 1) _ _ (by omega) hR (mSI_z hI (Classical.not_not.mp h89) (fun z => z.2.2 h58)))
        · refine R_iconst z68_61 (v := 1) (by decide) ?_
          refine R_goto z68_62 (tn := 66) rfl ?_
          refine R_istore z68_66 (loc' := [some (.ref 25), some (.int (nI c)), some (.int o), some (.int s), some (.int m), some (.int (nI k)), some (.int 1)]) rfl rfl ?_
          refine R_iload z68_68 rfl ?_
          refine R_iload z68_69 rfl ?_
          refine R_if z68_71 (tn := 84) rfl (fun q => absurd (show (1 : Int32) = 0 from q) (by decide)) (fun _ => ?_)
          refine R_iconst z68_74 (v := 1) (by decide) ?_
          refine R_iload z68_75 rfl ?_
          refine R_bipush z68_77 (v := 16) (by decide) ?_
          refine R_irem z68_79 (by decide) ?_
          refine R_top (y := nI (k % 16)) (nr16 (by omega)) ?_
          refine R_ishl z68_80 ?_
          refine R_goto z68_81 (tn := 85) rfl ?_
          refine R_ior z68_85 ?_
          refine R_istore z68_86 (loc' := [some (.ref 25), some (.int (nI c)), some (.int o), some (.int (s ||| (1 <<< ((nI (k % 16)) &&& 31)))), some (.int m), some (.int (nI k)), some (.int 1)]) rfl rfl ?_
          refine R_iload z68_87 rfl ?_
          refine R_if z68_89 (tn := 97) rfl (fun (h89 : ¬ (m : Int32) = 0) => ?_) (fun (h89 : ¬ (¬ (m : Int32) = 0)) => ?_)
          · refine R_iconst z68_97 (v := 1) (by decide) ?_
            refine R_goto z68_98 (tn := 102) rfl ?_
            refine R_istore z68_102 (loc' := [some (.ref 25), some (.int (nI c)), some (.int o), some (.int (s ||| (1 <<< ((nI (k % 16)) &&& 31)))), some (.int 1), some (.int (nI k)), some (.int 1)]) rfl rfl ?_
            refine R_iinc z68_104 (v := 1) (loc' := [some (.ref 25), some (.int (nI c)), some (.int o), some (.int (s ||| (1 <<< ((nI (k % 16)) &&& 31)))), some (.int 1), some (.int (nI (k + 1))), some (.int 1)]) rfl rfl (by decide) (by rw [nI_1]; rfl) ?_
            refine R_goto z68_107 (tn := 18) rfl ?_
            have g : mGo A s k := ⟨h33, jbit_1.mpr (Classical.not_not.mp h46), h58⟩
            exact GO_drop 6 (ih (k + 1) _ _ (by omega) (mRI_s hc (by omega) hR g) (mSI_g hI g))
          · refine R_iload z68_92 rfl ?_
            refine R_if z68_94 (tn := 101) rfl (fun q => absurd (show (1 : Int32) = 0 from q) (by decide)) (fun _ => ?_)
            refine R_iconst z68_97 (v := 1) (by decide) ?_
            refine R_goto z68_98 (tn := 102) rfl ?_
            refine R_istore z68_102 (loc' := [some (.ref 25), some (.int (nI c)), some (.int o), some (.int (s ||| (1 <<< ((nI (k % 16)) &&& 31)))), some (.int 1), some (.int (nI k)), some (.int 1)]) rfl rfl ?_
            refine R_iinc z68_104 (v := 1) (loc' := [some (.ref 25), some (.int (nI c)), some (.int o), some (.int (s ||| (1 <<< ((nI (k % 16)) &&& 31)))), some (.int 1), some (.int (nI (k + 1))), some (.int 1)]) rfl rfl (by decide) (by rw [nI_1]; rfl) ?_
            refine R_goto z68_107 (tn := 18) rfl ?_
            have g : mGo A s k := ⟨h33, jbit_1.mpr (Classical.not_not.mp h46), h58⟩
            exact GO_drop 6 (ih (k + 1) _ _ (by omega) (mRI_s hc (by omega) hR g) (mSI_g hI g))
theorem s68_out {l : Launch} {E : jEnv} {A : Nat → Nat → Int32} {V : Nat → Int32} {O : Nat → Int64} {Q : jO → List jC → Prop} {c o : Nat} (hc : c < 16) (ho : o < 16) (h1 : mReach A c o → Q (.inl (some (.int 1))) (hp A V O)) (h0 : ¬ mReach A c o → Q (.inl (some (.int 0))) (hp A V O)) : ∀ (N : Nat) (s m : Int32), ((m = 0 ∧ ∀ k, k < 256 → ¬ mGo A s k) ∨ m = 1) → mRI A c s → (m = 1 → ucn s 16 < N) → GO l E 68 7 [some (.ref 25), some (.int (nI c)), some (.int (nI o)), some (.int s), some (.int m), none, none] [] (hp A V O) 0 0 Q := by
  intro N
  induction N with
  | zero =>
    intro s m hm hR hu
    rcases hm with hm | hm
    · refine R_iload z68_7 rfl ?_
      refine R_if z68_9 (tn := 113) rfl (fun _ => ?_) (fun q => absurd (show m = 0 from hm.1) q)
      refine R_iload z68_113 rfl ?_
      refine R_iload z68_114 rfl ?_
      refine R_ishr z68_115 ?_
      refine R_iconst z68_116 (v := 1) (by decide) ?_
      refine R_iand z68_117 ?_
      refine R_iconst z68_118 (v := 1) (by decide) ?_
      refine R_icmp z68_119 (tn := 126) rfl (fun (h119 : ¬ (((s >>> ((nI o) &&& 31)) &&& 1) : Int32) = 1) => ?_) (fun (h119 : ¬ (¬ (((s >>> ((nI o) &&& 31)) &&& 1) : Int32) = 1)) => ?_)
      · refine R_iconst z68_126 (v := 0) (by decide) ?_
        exact R_iret z68_127 (Or.inr (by decide)) ⟨Nat.zero_le _, Nat.zero_le _⟩ (h0 (fun z => h119 (jbit_1.mp ((mRI_end ho hR hm.2).mpr z))))
      · refine R_iconst z68_122 (v := 1) (by decide) ?_
        refine R_goto z68_123 (tn := 127) rfl ?_
        exact R_iret z68_127 (Or.inr (by decide)) ⟨Nat.zero_le _, Nat.zero_le _⟩ (h1 ((mRI_end ho hR hm.2).mp (jbit_1.mpr (Classical.not_not.mp h119))))
    · exact absurd (hu hm) (by omega)
  | succ N ih =>
    intro s m hm hR hu
    rcases hm with hm | hm
    · refine R_iload z68_7 rfl ?_
      refine R_if z68_9 (tn := 113) rfl (fun _ => ?_) (fun q => absurd (show m = 0 from hm.1) q)
      refine R_iload z68_113 rfl ?_
      refine R_iload z68_114 rfl ?_
      refine R_ishr z68_115 ?_
      refine R_iconst z68_116 (v := 1) (by decide) ?_
      refine R_iand z68_117 ?_
      refine R_iconst z68_118 (v := 1) (by decide) ?_
      refine R_icmp z68_119 (tn := 126) rfl (fun (h119 : ¬ (((s >>> ((nI o) &&& 31)) &&& 1) : Int32) = 1) => ?_) (fun (h119 : ¬ (¬ (((s >>> ((nI o) &&& 31)) &&& 1) : Int32) = 1)) => ?_)
      · refine R_iconst z68_126 (v := 0) (by decide) ?_
        exact R_iret z68_127 (Or.inr (by decide)) ⟨Nat.zero_le _, Nat.zero_le _⟩ (h0 (fun z => h119 (jbit_1.mp ((mRI_end ho hR hm.2).mpr z))))
      · refine R_iconst z68_122 (v := 1) (by decide) ?_
        refine R_goto z68_123 (tn := 127) rfl ?_
        exact R_iret z68_127 (Or.inr (by decide)) ⟨Nat.zero_le _, Nat.zero_le _⟩ (h1 ((mRI_end ho hR hm.2).mp (jbit_1.mpr (Classical.not_not.mp h119))))
    · refine R_iload z68_7 rfl ?_
      refine R_if z68_9 (tn := 113) rfl (fun q => absurd ((show m = 0 from q).symm.trans hm) (by decide)) (fun _ => ?_)
      refine R_iconst z68_12 (v := 0) (by decide) ?_
      refine R_istore z68_13 (loc' := [some (.ref 25), some (.int (nI c)), some (.int (nI o)), some (.int s), some (.int 0), none, none]) rfl rfl ?_
      refine R_iconst z68_15 (v := 0) (by decide) ?_
      refine R_istore z68_16 (loc' := [some (.ref 25), some (.int (nI c)), some (.int (nI o)), some (.int s), some (.int 0), some (.int 0), none]) rfl rfl ?_
      refine s68_lp (s0 := s) hc ?_ 256 0 s 0 (by omega) hR (Or.inl ⟨rfl, rfl, fun j hj => absurd hj (by omega)⟩)
      intro s2 m2 hR2 hI2
      rcases hI2 with z | z
      · exact ih s2 m2 (Or.inl ⟨z.1, by rw [z.2.1]; exact z.2.2⟩) hR2 (fun y => absurd (z.1.symm.trans y) (by decide))
      · exact ih s2 m2 (Or.inr z.1) hR2 (fun _ => by have := hu hm; omega)
theorem s68 {l : Launch} {E : jEnv} {A : Nat → Nat → Int32} {V : Nat → Int32} {O : Nat → Int64} {Q : jO → List jC → Prop} {c o : Nat} (hc : c < 16) (ho : o < 16) (h1 : mReach A c o → Q (.inl (some (.int 1))) (hp A V O)) (h0 : ¬ mReach A c o → Q (.inl (some (.int 0))) (hp A V O)) : GO l E 68 0 [some (.ref 25), some (.int (nI c)), some (.int (nI o)), none, none, none, none] [] (hp A V O) 0 0 Q := by
  refine R_iconst z68_0 (v := 1) (by decide) ?_
  refine R_iload z68_1 rfl ?_
  refine R_ishl z68_2 ?_
  refine R_istore z68_3 (loc' := [some (.ref 25), some (.int (nI c)), some (.int (nI o)), some (.int (1 <<< ((nI c) &&& 31))), none, none, none]) rfl rfl ?_
  refine R_iconst z68_4 (v := 1) (by decide) ?_
  refine R_istore z68_5 (loc' := [some (.ref 25), some (.int (nI c)), some (.int (nI o)), some (.int (1 <<< ((nI c) &&& 31))), some (.int 1), none, none]) rfl rfl ?_
  refine s68_out hc ho h1 h0 (ucn ((1 : Int32) <<< (nI c &&& 31)) 16 + 1) _ 1 (Or.inr rfl) ⟨(jbit_one (by omega) (by omega)).mpr rfl, fun j hj z => ?_⟩ (fun _ => by omega)
  rw [jbit_one (by omega) (by omega)] at z
  subst z
  exact mReach_0
theorem s69x {l : Launch} {E : jEnv} {A : Nat → Nat → Int32} {V : Nat → Int32} {O : Nat → Int64} {Q : jO → List jC → Prop} {c o : Int32} { n r : Nat} (hW : mWf A V n r) (hbad : (c < 0 ∨ ¬ c < nI n ∨ o < 0 ∨ ¬ o < nI n)) (hQ : Q (.inl none) (hp A (va_up V 6 1) O)) : GO l E 69 0 [some (.ref 25), some (.int c), some (.int o), none] [] (hp A V O) 0 0 Q := by
  refine R_aload z69_0 rfl ?_
  refine R_iload z69_1 rfl ?_
  refine R_cv z69_2 (k := 65) (by decide +kernel) rfl rfl (by decide +kernel) (Nat.le_of_ble_eq_true (by rfl)) rfl ⟨rfl, trivial⟩ ?_
  refine s65 hW.1 hW.2.1 (fun c2 e2 l2 => jBk_ret rfl ⟨rfl, rfl⟩ ?_) (fun g => jBk_ret rfl ⟨rfl, rfl⟩ ?_)
  · refine R_if z69_5 (tn := 16) rfl (fun q => absurd (show (1 : Int32) = 0 from q) (by decide)) (fun _ => ?_)
    refine R_aload z69_8 rfl ?_
    refine R_iload z69_9 rfl ?_
    refine R_cv z69_10 (k := 65) (by decide +kernel) rfl rfl (by decide +kernel) (Nat.le_of_ble_eq_true (by rfl)) rfl ⟨rfl, trivial⟩ ?_
    refine s65 hW.1 hW.2.1 (fun o2 e3 l3 => absurd (hbad.elim (fun z => Or.inl z) (fun z => z.elim Or.inr (fun z => absurd z (ncb e3 l3 hW.2.1)))) (ncb e2 l2 hW.2.1)) (fun k => jBk_ret rfl ⟨rfl, rfl⟩ ?_)
    refine R_if z69_13 (tn := 20) rfl (fun q => absurd (show ¬ (0 : Int32) = 0 from q) (by decide)) (fun _ => ?_)
    refine R_iconst z69_16 (v := 1) (by decide) ?_
    refine R_goto z69_17 (tn := 21) rfl ?_
    refine R_istore z69_21 (loc' := [some (.ref 25), some (.int c), some (.int o), some (.int 1)]) rfl rfl ?_
    refine R_aload z69_22 rfl ?_
    refine R_iload z69_23 rfl ?_
    refine R_iload z69_24 rfl ?_
    refine R_if z69_25 (tn := 55) rfl (fun _ => ?_) (fun q => absurd (show ¬ (1 : Int32) = 0 by decide) q)
    refine R_iconst z69_55 (v := 0) (by decide) ?_
    refine R_iconst z69_56 (v := 0) (by decide) ?_
    refine R_iconst z69_57 (v := 0) (by decide) ?_
    refine R_cv z69_58 (k := 63) (by decide +kernel) rfl rfl (by decide +kernel) (Nat.le_of_ble_eq_true (by rfl)) rfl ⟨rfl, trivial⟩ ?_
    refine s63 (fun q => absurd q (by decide)) (fun _ => jBk_ret rfl ⟨rfl, rfl⟩ ?_)
    refine R_if z69_61 (tn := 65) rfl (fun q => absurd (show (1 : Int32) = 0 from q) (by decide)) (fun _ => ?_)
    exact R_vret z69_64 ⟨Nat.zero_le _, Nat.zero_le _⟩ (hQ)
  · refine R_if z69_5 (tn := 16) rfl (fun _ => ?_) (fun q => absurd (show (0 : Int32) = 0 by decide) q)
    refine R_iconst z69_16 (v := 1) (by decide) ?_
    refine R_goto z69_17 (tn := 21) rfl ?_
    refine R_istore z69_21 (loc' := [some (.ref 25), some (.int c), some (.int o), some (.int 1)]) rfl rfl ?_
    refine R_aload z69_22 rfl ?_
    refine R_iload z69_23 rfl ?_
    refine R_iload z69_24 rfl ?_
    refine R_if z69_25 (tn := 55) rfl (fun _ => ?_) (fun q => absurd (show ¬ (1 : Int32) = 0 by decide) q)
    refine R_iconst z69_55 (v := 0) (by decide) ?_
    refine R_iconst z69_56 (v := 0) (by decide) ?_
    refine R_iconst z69_57 (v := 0) (by decide) ?_
    refine R_cv z69_58 (k := 63) (by decide +kernel) rfl rfl (by decide +kernel) (Nat.le_of_ble_eq_true (by rfl)) rfl ⟨rfl, trivial⟩ ?_
    refine s63 (fun q => absurd q (by decide)) (fun _ => jBk_ret rfl ⟨rfl, rfl⟩ ?_)
    refine R_if z69_61 (tn := 65) rfl (fun q => absurd (show (1 : Int32) = 0 from q) (by decide)) (fun _ => ?_)
    exact R_vret z69_64 ⟨Nat.zero_le _, Nat.zero_le _⟩ (hQ)
theorem s69 {l : Launch} {E : jEnv} {A : Nat → Nat → Int32} {V : Nat → Int32} {O : Nat → Int64} {Q : jO → List jC → Prop} {c o n r : Nat} (hW : mWf A V n r) (hc : c < n) (ho : o < n) (hc2 : c < 16) (ho2 : o < 16) (hS : (¬ A 30 (16 * c + o) = 0 ∨ mReach A o c) → Q (.inl none) (hp A (va_up V 6 2) O)) (hQ : A 30 (16 * c + o) = 0 → ¬ mReach A o c → Q (.inl none) (hp (va_up A 30 (upd (A 30) (16 * c + o) 1)) (va_up V 6 0) O)) : GO l E 69 0 [some (.ref 25), some (.int (nI c)), some (.int (nI o)), none] [] (hp A V O) 0 0 Q := by
  refine R_aload z69_0 rfl ?_
  refine R_iload z69_1 rfl ?_
  refine R_cv z69_2 (k := 65) (by decide +kernel) rfl rfl (by decide +kernel) (Nat.le_of_ble_eq_true (by rfl)) rfl ⟨rfl, trivial⟩ ?_
  refine s65 hW.1 hW.2.1 (fun _ _ _ => jBk_ret rfl ⟨rfl, rfl⟩ ?_) (fun g => absurd g (ncb rfl hc hW.2.1))
  refine R_if z69_5 (tn := 16) rfl (fun q => absurd (show (1 : Int32) = 0 from q) (by decide)) (fun _ => ?_)
  refine R_aload z69_8 rfl ?_
  refine R_iload z69_9 rfl ?_
  refine R_cv z69_10 (k := 65) (by decide +kernel) rfl rfl (by decide +kernel) (Nat.le_of_ble_eq_true (by rfl)) rfl ⟨rfl, trivial⟩ ?_
  refine s65 hW.1 hW.2.1 (fun _ _ _ => jBk_ret rfl ⟨rfl, rfl⟩ ?_) (fun g => absurd g (ncb rfl ho hW.2.1))
  refine R_if z69_13 (tn := 20) rfl (fun _ => ?_) (fun q => absurd (show ¬ (1 : Int32) = 0 by decide) q)
  refine R_iconst z69_20 (v := 0) (by decide) ?_
  refine R_istore z69_21 (loc' := [some (.ref 25), some (.int (nI c)), some (.int (nI o)), some (.int 0)]) rfl rfl ?_
  refine R_aload z69_22 rfl ?_
  refine R_iload z69_23 rfl ?_
  refine R_iload z69_24 rfl ?_
  refine R_if z69_25 (tn := 55) rfl (fun q => absurd (show ¬ (0 : Int32) = 0 from q) (by decide)) (fun _ => ?_)
  refine R_aload z69_28 rfl ?_
  refine R_get z69_29 (k := 4) (f := 8) (by decide +kernel) rfl rfl ?_
  refine R_bipush z69_32 (v := 16) (by decide) ?_
  refine R_iload z69_34 rfl ?_
  refine R_imul z69_35 ?_
  refine R_iload z69_36 rfl ?_
  refine R_iadd z69_37 ?_
  refine R_top (y := nI (16 * c + o)) (mp16 c o) ?_
  refine R_zld z69_38 (n := 256) (f := A 30) (v := (A 30 (16 * c + o))) rfl (nin (by omega) (by decide)) (by rw [ncl (by omega)]) ?_
  refine R_if z69_39 (tn := 51) rfl (fun (h39 : ¬ ((A 30 (16 * c + o)) : Int32) = 0) => ?_) (fun (h39 : ¬ (¬ ((A 30 (16 * c + o)) : Int32) = 0)) => ?_)
  · refine R_iconst z69_51 (v := 1) (by decide) ?_
    refine R_goto z69_52 (tn := 56) rfl ?_
    refine R_iconst z69_56 (v := 0) (by decide) ?_
    refine R_iconst z69_57 (v := 0) (by decide) ?_
    refine R_cv z69_58 (k := 63) (by decide +kernel) rfl rfl (by decide +kernel) (Nat.le_of_ble_eq_true (by rfl)) rfl ⟨rfl, trivial⟩ ?_
    refine s63 (fun q => absurd q (by decide)) (fun _ => jBk_ret rfl ⟨rfl, rfl⟩ ?_)
    refine R_if z69_61 (tn := 65) rfl (fun q => absurd (show (1 : Int32) = 0 from q) (by decide)) (fun _ => ?_)
    exact R_vret z69_64 ⟨Nat.zero_le _, Nat.zero_le _⟩ (hS (Or.inl h39))
  · refine R_aload z69_42 rfl ?_
    refine R_iload z69_43 rfl ?_
    refine R_iload z69_44 rfl ?_
    refine R_cv z69_45 (k := 68) (by decide +kernel) rfl rfl (by decide +kernel) (Nat.le_of_ble_eq_true (by rfl)) rfl ⟨rfl, trivial⟩ ?_
    refine s68 ho2 hc2 (fun g => jBk_ret rfl ⟨rfl, rfl⟩ ?_) (fun g => jBk_ret rfl ⟨rfl, rfl⟩ ?_)
    · refine R_if z69_48 (tn := 55) rfl (fun q => absurd (show (1 : Int32) = 0 from q) (by decide)) (fun _ => ?_)
      refine R_iconst z69_51 (v := 1) (by decide) ?_
      refine R_goto z69_52 (tn := 56) rfl ?_
      refine R_iconst z69_56 (v := 0) (by decide) ?_
      refine R_iconst z69_57 (v := 0) (by decide) ?_
      refine R_cv z69_58 (k := 63) (by decide +kernel) rfl rfl (by decide +kernel) (Nat.le_of_ble_eq_true (by rfl)) rfl ⟨rfl, trivial⟩ ?_
      refine s63 (fun q => absurd q (by decide)) (fun _ => jBk_ret rfl ⟨rfl, rfl⟩ ?_)
      refine R_if z69_61 (tn := 65) rfl (fun q => absurd (show (1 : Int32) = 0 from q) (by decide)) (fun _ => ?_)
      exact R_vret z69_64 ⟨Nat.zero_le _, Nat.zero_le _⟩ (hS (Or.inr g))
    · refine R_if z69_48 (tn := 55) rfl (fun _ => ?_) (fun q => absurd (show (0 : Int32) = 0 by decide) q)
      refine R_iconst z69_55 (v := 0) (by decide) ?_
      refine R_iconst z69_56 (v := 0) (by decide) ?_
      refine R_iconst z69_57 (v := 0) (by decide) ?_
      refine R_cv z69_58 (k := 63) (by decide +kernel) rfl rfl (by decide +kernel) (Nat.le_of_ble_eq_true (by rfl)) rfl ⟨rfl, trivial⟩ ?_
      refine s63 (fun _ => jBk_ret rfl ⟨rfl, rfl⟩ ?_) (fun q => absurd rfl q)
      refine R_if z69_61 (tn := 65) rfl (fun _ => ?_) (fun q => absurd (show (0 : Int32) = 0 by decide) q)
      refine R_aload z69_65 rfl ?_
      refine R_get z69_66 (k := 4) (f := 8) (by decide +kernel) rfl rfl ?_
      refine R_bipush z69_69 (v := 16) (by decide) ?_
      refine R_iload z69_71 rfl ?_
      refine R_imul z69_72 ?_
      refine R_iload z69_73 rfl ?_
      refine R_iadd z69_74 ?_
      refine R_top (y := nI (16 * c + o)) (mp16 c o) ?_
      refine R_iconst z69_75 (v := 1) (by decide) ?_
      refine R_zst z69_76 (n := 256) (f := A 30) (h' := hp (va_up A 30 (upd (A 30) (16 * c + o) 1)) (va_up V 6 0) O) rfl (nin (by omega) (by decide)) (by rw [ncl (by omega)]; rfl) ?_
      exact R_vret z69_77 ⟨Nat.zero_le _, Nat.zero_le _⟩ (hQ (Classical.not_not.mp h39) g)

theorem vb_at {α : Type} {A : Nat → α} {a : Nat} {f : α} : va_up A a f a = f := if_pos rfl
theorem vb_ne {α : Type} {A : Nat → α} {a b : Nat} {f : α} (h : ¬ b = a) : va_up A a f b = A b := if_neg h
theorem upd_ne {f : Nat → Int32} {j k : Nat} {v : Int32} (h : ¬ k = j) : upd f j v k = f k := if_neg h
def mF (A : Nat → Nat → Int32) : Nat → Nat → Prop := fun s p => ¬ A 42 (20 * s + p) = 0
def mX (A : Nat → Nat → Int32) : Nat → Prop := fun p => p < 20 ∧ ∃ s, s < 12 ∧ A 40 s = nI p
/-- an Int32 that stands for a seat or none -/
def rO (x : Int32) (o : Option Nat) : Prop := match o with | none => x = -1 | some s => s < 12 ∧ x = nI s
def rS (B : Nat → Nat → Int32) (g : Nat → Option Nat) : Prop := ∀ p, p < 20 → rO (B 41 p) (g p)
theorem rO_lt {x : Int32} {o : Option Nat} (h : rO x o) : x < 0 ↔ o = none := by
  cases o with
  | none => exact ⟨fun _ => rfl, fun _ => by rw [show x = -1 from h]; decide⟩
  | some s => exact ⟨fun z => absurd z (by rw [h.2]; exact nI_pos (by have := h.1; omega)), fun z => by cases z⟩
theorem rO_n {x : Int32} {o : Option Nat} {s : Nat} (h : rO x o) (hs : s < 12) (e : x = nI s) : o = some s := by
  cases o with
  | none => exact absurd (e.symm.trans h) (nm1 (by omega))
  | some s' => rw [h.2, nI_eq (by have := h.1; omega) (by omega)] at e; rw [e]
def mFx (A : Nat → Nat → Int32) (p : Int32) : Nat → Int32
  | 0 => -1
  | k + 1 => if A 40 k = p then nI k else mFx A p k
theorem mFx_iff (A : Nat → Nat → Int32) (p : Int32) : ∀ k, k ≤ 12 → ((0 ≤ mFx A p k) ↔ ∃ s, s < k ∧ A 40 s = p)
  | 0, _ => ⟨fun z => absurd (show (0 : Int32) ≤ -1 from z) (by decide), fun ⟨s, h, _⟩ => absurd h (by omega)⟩
  | k + 1, hk => by
    unfold mFx
    by_cases e : A 40 k = p
    · rw [if_pos e]; exact ⟨fun _ => ⟨k, by omega, e⟩, fun _ => Int32.not_lt.mp (nI_pos (by omega))⟩
    · rw [if_neg e, mFx_iff A p k (by omega)]
      refine ⟨fun ⟨s, h1, h2⟩ => ⟨s, by omega, h2⟩, fun ⟨s, h1, h2⟩ => ⟨s, ?_, h2⟩⟩
      have : ¬ s = k := fun z => e (by rw [← z]; exact h2)
      omega
def mOn (A : Nat → Nat → Int32) (t : Int32) : Nat → Int32
  | 0 => -1
  | k + 1 => if A 41 k = t then nI k else mOn A t k
theorem mOn_b {A : Nat → Nat → Int32} {t : Int32} {b : Nat} (hb : A 41 b = t) : ∀ k, b < k → (∀ p, p < k → A 41 p = t → p = b) → mOn A t k = nI b
  | 0, h, _ => absurd h (by omega)
  | k + 1, h, u => by
    unfold mOn
    by_cases e : A 41 k = t
    · rw [if_pos e, u k (by omega) e]
    · rw [if_neg e]
      have : ¬ b = k := fun z => e (by rw [← z]; exact hb)
      exact mOn_b hb k (by omega) (fun p hp => u p (by omega))
theorem s93_lp {l : Launch} {E : jEnv} {A : Nat → Nat → Int32} {V : Nat → Int32} {O : Nat → Int64} {Q : jO → List jC → Prop} {t : Int32} (hQ : Q (.inl (some (.int (mOn A t 20)))) (hp A V O)) : ∀ (d k : Nat), k + d = 20 →  GO l E 93 4 [some (.ref 25), some (.int t), some (.int (mOn A t k)), some (.int (nI k))] [] (hp A V O) 0 0 Q := by
  intro d
  induction d with
  | zero =>
    intro k hk 
    refine R_iload z93_4 rfl ?_
    refine R_bipush z93_5 (v := 20) (by decide) ?_
    refine R_icmp z93_7 (tn := 32) rfl (fun (h7 : (20 : Int32) ≤ (nI k)) => ?_) (fun q => absurd ((show (20 : Int32) ≤ nI k by rw [show (20 : Int32) = nI 20 by decide, nge (by omega) (by omega)]; omega)) q)
    refine R_iload z93_32 rfl ?_
    exact R_iret z93_33 (Or.inl (by decide +kernel)) ⟨Nat.zero_le _, Nat.zero_le _⟩ (by rw [show k = 20 by omega]; exact hQ)
  | succ d ih =>
    intro k hk 
    refine R_iload z93_4 rfl ?_
    refine R_bipush z93_5 (v := 20) (by decide) ?_
    refine R_icmp z93_7 (tn := 32) rfl (fun q => absurd q ((show ¬ (20 : Int32) ≤ nI k by rw [show (20 : Int32) = nI 20 by decide, nge (by omega) (by omega)]; omega))) (fun (h7 : ¬ (20 : Int32) ≤ (nI k)) => ?_)
    refine R_aload z93_10 rfl ?_
    refine R_get z93_11 (k := 4) (f := 21) (by decide +kernel) rfl rfl ?_
    refine R_iload z93_14 rfl ?_
    refine R_ild z93_15 (n := 20) (f := A 41) (v := (A 41 k)) rfl (nin (by omega) (by decide)) (by rw [ncl (by omega)]) ?_
    refine R_iload z93_16 rfl ?_
    refine R_icmp z93_17 (tn := 24) rfl (fun (h17 : ¬ ((A 41 k) : Int32) = t) => ?_) (fun (h17 : ¬ (¬ ((A 41 k) : Int32) = t)) => ?_)
    · refine R_iload z93_24 rfl ?_
      refine R_istore z93_25 (loc' := [some (.ref 25), some (.int t), some (.int (mOn A t k)), some (.int (nI k))]) rfl rfl ?_
      refine R_iinc z93_26 (v := 1) (loc' := [some (.ref 25), some (.int t), some (.int (mOn A t k)), some (.int (nI (k + 1)))]) rfl rfl (by decide) (by rw [nI_1]; rfl) ?_
      refine R_goto z93_29 (tn := 4) rfl ?_
      have e9 : mOn A t (k + 1) = mOn A t k := by rw [mOn, if_neg h17]
      have G := ih (k + 1) (by omega)
      rw [e9] at G
      exact G
    · refine R_iload z93_20 rfl ?_
      refine R_goto z93_21 (tn := 25) rfl ?_
      refine R_istore z93_25 (loc' := [some (.ref 25), some (.int t), some (.int (nI k)), some (.int (nI k))]) rfl rfl ?_
      refine R_iinc z93_26 (v := 1) (loc' := [some (.ref 25), some (.int t), some (.int (nI k)), some (.int (nI (k + 1)))]) rfl rfl (by decide) (by rw [nI_1]; rfl) ?_
      refine R_goto z93_29 (tn := 4) rfl ?_
      have e9 : mOn A t (k + 1) = nI k := by rw [mOn, if_pos (Classical.not_not.mp h17)]
      have G := ih (k + 1) (by omega)
      rw [e9] at G
      exact G
theorem s93 {l : Launch} {E : jEnv} {A : Nat → Nat → Int32} {V : Nat → Int32} {O : Nat → Int64} {Q : jO → List jC → Prop} {t : Int32} (hQ : Q (.inl (some (.int (mOn A t 20)))) (hp A V O)) : GO l E 93 0 [some (.ref 25), some (.int t), none, none] [] (hp A V O) 0 0 Q := by
  refine R_iconst z93_0 (v := (-1)) (by decide) ?_
  refine R_istore z93_1 (loc' := [some (.ref 25), some (.int t), some (.int (-1)), none]) rfl rfl ?_
  refine R_iconst z93_2 (v := 0) (by decide) ?_
  refine R_istore z93_3 (loc' := [some (.ref 25), some (.int t), some (.int (-1)), some (.int 0)]) rfl rfl ?_
  exact s93_lp hQ 20 0 (by omega)
theorem s94_lp {l : Launch} {E : jEnv} {A : Nat → Nat → Int32} {V : Nat → Int32} {O : Nat → Int64} {Q : jO → List jC → Prop} {t : Int32} (hQ : Q (.inl (some (.int (mFx A t 12)))) (hp A V O)) : ∀ (d k : Nat), k + d = 12 →  GO l E 94 4 [some (.ref 25), some (.int t), some (.int (mFx A t k)), some (.int (nI k))] [] (hp A V O) 0 0 Q := by
  intro d
  induction d with
  | zero =>
    intro k hk 
    refine R_iload z94_4 rfl ?_
    refine R_bipush z94_5 (v := 12) (by decide) ?_
    refine R_icmp z94_7 (tn := 32) rfl (fun (h7 : (12 : Int32) ≤ (nI k)) => ?_) (fun q => absurd ((show (12 : Int32) ≤ nI k by rw [show (12 : Int32) = nI 12 by decide, nge (by omega) (by omega)]; omega)) q)
    refine R_iload z94_32 rfl ?_
    exact R_iret z94_33 (Or.inl (by decide +kernel)) ⟨Nat.zero_le _, Nat.zero_le _⟩ (by rw [show k = 12 by omega]; exact hQ)
  | succ d ih =>
    intro k hk 
    refine R_iload z94_4 rfl ?_
    refine R_bipush z94_5 (v := 12) (by decide) ?_
    refine R_icmp z94_7 (tn := 32) rfl (fun q => absurd q ((show ¬ (12 : Int32) ≤ nI k by rw [show (12 : Int32) = nI 12 by decide, nge (by omega) (by omega)]; omega))) (fun (h7 : ¬ (12 : Int32) ≤ (nI k)) => ?_)
    refine R_aload z94_10 rfl ?_
    refine R_get z94_11 (k := 4) (f := 20) (by decide +kernel) rfl rfl ?_
    refine R_iload z94_14 rfl ?_
    refine R_ild z94_15 (n := 12) (f := A 40) (v := (A 40 k)) rfl (nin (by omega) (by decide)) (by rw [ncl (by omega)]) ?_
    refine R_iload z94_16 rfl ?_
    refine R_icmp z94_17 (tn := 24) rfl (fun (h17 : ¬ ((A 40 k) : Int32) = t) => ?_) (fun (h17 : ¬ (¬ ((A 40 k) : Int32) = t)) => ?_)
    · refine R_iload z94_24 rfl ?_
      refine R_istore z94_25 (loc' := [some (.ref 25), some (.int t), some (.int (mFx A t k)), some (.int (nI k))]) rfl rfl ?_
      refine R_iinc z94_26 (v := 1) (loc' := [some (.ref 25), some (.int t), some (.int (mFx A t k)), some (.int (nI (k + 1)))]) rfl rfl (by decide) (by rw [nI_1]; rfl) ?_
      refine R_goto z94_29 (tn := 4) rfl ?_
      have e9 : mFx A t (k + 1) = mFx A t k := by rw [mFx, if_neg h17]
      have G := ih (k + 1) (by omega)
      rw [e9] at G
      exact G
    · refine R_iload z94_20 rfl ?_
      refine R_goto z94_21 (tn := 25) rfl ?_
      refine R_istore z94_25 (loc' := [some (.ref 25), some (.int t), some (.int (nI k)), some (.int (nI k))]) rfl rfl ?_
      refine R_iinc z94_26 (v := 1) (loc' := [some (.ref 25), some (.int t), some (.int (nI k)), some (.int (nI (k + 1)))]) rfl rfl (by decide) (by rw [nI_1]; rfl) ?_
      refine R_goto z94_29 (tn := 4) rfl ?_
      have e9 : mFx A t (k + 1) = nI k := by rw [mFx, if_pos (Classical.not_not.mp h17)]
      have G := ih (k + 1) (by omega)
      rw [e9] at G
      exact G
theorem s94 {l : Launch} {E : jEnv} {A : Nat → Nat → Int32} {V : Nat → Int32} {O : Nat → Int64} {Q : jO → List jC → Prop} {t : Int32} (hQ : Q (.inl (some (.int (mFx A t 12)))) (hp A V O)) : GO l E 94 0 [some (.ref 25), some (.int t), none, none] [] (hp A V O) 0 0 Q := by
  refine R_iconst z94_0 (v := (-1)) (by decide) ?_
  refine R_istore z94_1 (loc' := [some (.ref 25), some (.int t), some (.int (-1)), none]) rfl rfl ?_
  refine R_iconst z94_2 (v := 0) (by decide) ?_
  refine R_istore z94_3 (loc' := [some (.ref 25), some (.int t), some (.int (-1)), some (.int 0)]) rfl rfl ?_
  exact s94_lp hQ 12 0 (by omega)
theorem s93x {l : Launch} {E : jEnv} {A : Nat → Nat → Int32} {V : Nat → Int32} {O : Nat → Int64} {Q : jO → List jC → Prop} {t y : Int32} (e : mOn A t 20 = y) (hQ : Q (.inl (some (.int y))) (hp A V O)) : GO l E 93 0 [some (.ref 25), some (.int t), none, none] [] (hp A V O) 0 0 Q := by subst e; exact s93 hQ
def f1 (A B : Nat → Nat → Int32) : Prop := ∀ a, ¬ a = 41 → B a = A a
def rF (B : Nat → Nat → Int32) (fr : Nat → Option Nat) : Prop := ∀ p, p < 20 → (fr p = none → B 43 p = -1) ∧ ∀ t, fr p = some t → t < 12 ∧ B 43 p = nI (100 + t)
def rH (B : Nat → Nat → Int32) (g : Nat → Option Nat) (q : Nat) : Prop := ∀ p, p < 20 → ¬ p = q → rO (B 41 p) (g p)
theorem s100 {t : Nat} : nI (100 + t) - 100 = nI t := by
  rw [show (100 : Int32) = nI 100 by decide, Nat.add_comm, ← nI_add, Int32.add_sub_cancel]
theorem f1_up {A B : Nat → Nat → Int32} {f : Nat → Int32} (h : f1 A B) : f1 A (va_up B 41 f) := fun a ha => by rw [vb_ne ha]; exact h a ha
theorem rH_up {B : Nat → Nat → Int32} {g : Nat → Option Nat} {q b t : Nat} (h : rH B g q) (ht : t < 12) : rH (va_up B 41 (upd (B 41) q (nI t))) (gup (gup g b none) q (some t)) b := by
  intro p hp hb
  rw [vb_at]
  by_cases z : p = q
  · subst z; rw [upd_at, gup_at]; exact ⟨ht, rfl⟩
  · rw [upd_ne z, gup_ne z, gup_ne hb]; exact h p hp z
theorem rS_up {B : Nat → Nat → Int32} {g : Nat → Option Nat} {q t : Nat} (h : rH B g q) (ht : t < 12) : rS (va_up B 41 (upd (B 41) q (nI t))) (gup g q (some t)) := by
  intro p hp
  rw [vb_at]
  by_cases z : p = q
  · subst z; rw [upd_at, gup_at]; exact ⟨ht, rfl⟩
  · rw [upd_ne z, gup_ne z]; exact h p hp z
/-- what stands stale at the person in hand -/
def stl (B : Nat → Nat → Int32) (g : Nat → Option Nat) (rk : Nat → Nat) (q : Nat) : Prop := B 41 q = -1 ∨ ∃ s q', s < 12 ∧ B 41 q = nI s ∧ g q' = some s ∧ rk q < rk q'
theorem on_b {B : Nat → Nat → Int32} {F : Nat → Nat → Prop} {T X : Nat → Prop} {g : Nat → Option Nat} {rk : Nat → Nat} {q b t : Nat} (hg : Mt F T X g) (hR : rH B g q) (hs : stl B g rk q) (ht : t < 12) (hb : g b = some t) (hb20 : b < 20) (hbq : ¬ b = q) (hrk : rk b < rk q) : mOn B (nI t) 20 = nI b := by
  have e0 := hR b hb20 hbq
  rw [hb] at e0
  refine mOn_b e0.2 20 hb20 (fun p hp e => ?_)
  by_cases z : p = q
  · subst z
    rcases hs with y | ⟨s, q', y1, y2, y3, y4⟩
    · exact absurd (e.symm.trans y) (nm1 (by omega))
    · rw [y2, nI_eq (by omega) (by omega)] at e
      subst e
      have := hg.2 q' b s y3 hb
      rw [this] at y4; omega
  · have h1 := rO_n (hR p hp z) ht e
    exact hg.2 p b t h1 hb
theorem s92_lp {l : Launch} {E : jEnv} {A : Nat → Nat → Int32} {V : Nat → Int32} {O : Nat → Int64} {Q : jO → List jC → Prop} {F : Nat → Nat → Prop} {T X Y : Nat → Prop} {e : Nat} {fr : Nat → Option Nat} {rk : Nat → Nat} {g0 : Nat → Option Nat} {x : Int32} (hC : CH F Y g0 e fr rk) (hXY : ∀ p, X p → Y p) (hT : T e) (he : e < 12) (hF : rF A fr) (hQ : ∀ B g, f1 A B → rS B g → Mt F T X g → sz g 20 = sz g0 20 + 1 → (∀ p, Y p → g p = g0 p) → Q (.inl none) (hp B V O)) : ∀ (N q t : Nat) (g : Nat → Option Nat) (B : Nat → Nat → Int32), rk q < N → HS F T X Y e fr rk g0 g q → fr q = some t → f1 A B → rH B g q → stl B g rk q → GO l E 92 13 [some (.ref 25), some (.int x), some (.int (nI e)), some (.int (nI q)), some (.int (nI t)), none] [] (hp B V O) 0 0 Q := by
  intro N
  induction N with
  | zero => intro q t g B h; exact absurd h (by omega)
  | succ N ih =>
    intro q t g B hN hH hq hB hR hst
    obtain ⟨c1, c2, c3, c4, c5⟩ := hC q t hq
    by_cases hte : t = e
    · have hq2 := hq
      rw [hte] at hq2
      obtain ⟨k1, k2, k3⟩ := hs_end hC hXY hT hH hq2
      refine R_iload z92_13 rfl ?_
      refine R_iload z92_15 rfl ?_
      refine R_icmp z92_16 (tn := 52) rfl (fun (h16 : ((nI t) : Int32) = (nI e)) => ?_) (fun q => absurd (show nI t = nI e by rw [hte]) q)
      refine R_aload z92_52 rfl ?_
      refine R_get z92_53 (k := 4) (f := 21) (by decide +kernel) rfl rfl ?_
      refine R_iload z92_56 rfl ?_
      refine R_iload z92_57 rfl ?_
      refine R_ist z92_58 (n := 20) (f := B 41) (h' := hp (va_up B 41 (upd (B 41) q (nI e))) V O) rfl (nin c1 (by decide)) (by rw [ncl (by omega)]; rfl) ?_
      exact R_vret z92_59 ⟨Nat.zero_le _, Nat.zero_le _⟩ (hQ _ _ (f1_up hB) (rS_up hR he) k1 k2 k3)
    · obtain ⟨b, b1, b2, b3, b4, b5⟩ := hs_step hC hXY hH hq hte
      obtain ⟨t2, et2⟩ : ∃ t2, fr b = some t2 := by
        cases y : fr b with
        | none => exact absurd y b5.2.2.1
        | some t2 => exact ⟨t2, rfl⟩
      refine R_iload z92_13 rfl ?_
      refine R_iload z92_15 rfl ?_
      refine R_icmp z92_16 (tn := 52) rfl (fun q => absurd q (fun z => hte ((nI_eq (by omega) (by omega)).mp z))) (fun (h16 : ¬ ((nI t) : Int32) = (nI e)) => ?_)
      refine R_aload z92_19 rfl ?_
      refine R_iload z92_20 rfl ?_
      refine R_cv z92_22 (k := 93) (by decide +kernel) rfl rfl (by decide +kernel) (Nat.le_of_ble_eq_true (by rfl)) rfl ⟨rfl, trivial⟩ ?_
      refine s93x (on_b hH.1 hR hst c2 b1 b2 b3 b4) (jBk_ret rfl ⟨rfl, rfl⟩ ?_)
      refine R_istore z92_25 (loc' := [some (.ref 25), some (.int x), some (.int (nI e)), some (.int (nI q)), some (.int (nI t)), some (.int (nI b))]) rfl rfl ?_
      refine R_aload z92_27 rfl ?_
      refine R_get z92_28 (k := 4) (f := 21) (by decide +kernel) rfl rfl ?_
      refine R_iload z92_31 rfl ?_
      refine R_iload z92_32 rfl ?_
      refine R_ist z92_34 (n := 20) (f := B 41) (h' := hp (va_up B 41 (upd (B 41) q (nI t))) V O) rfl (nin c1 (by decide)) (by rw [ncl (by omega)]; rfl) ?_
      refine R_iload z92_35 rfl ?_
      refine R_istore z92_37 (loc' := [some (.ref 25), some (.int x), some (.int (nI e)), some (.int (nI b)), some (.int (nI t)), some (.int (nI b))]) rfl rfl ?_
      refine R_aload z92_38 rfl ?_
      refine R_get z92_39 (k := 4) (f := 23) (by decide +kernel) rfl rfl ?_
      refine R_iload z92_42 rfl ?_
      refine R_ild z92_43 (n := 20) (f := (va_up B 41 (upd (B 41) q (nI t))) 43) (v := (nI (100 + t2))) rfl (nin b2 (by decide)) (by rw [ncl (by omega)]; show B 43 b = _; rw [hB 43 (by decide)]; exact ((hF b b2).2 t2 et2).2) ?_
      refine R_bipush z92_44 (v := 100) (by decide) ?_
      refine R_isub z92_46 ?_
      refine R_top (y := nI t2) (s100) ?_
      refine R_istore z92_47 (loc' := [some (.ref 25), some (.int x), some (.int (nI e)), some (.int (nI b)), some (.int (nI t2)), some (.int (nI b))]) rfl rfl ?_
      refine R_goto z92_49 (tn := 13) rfl ?_
      refine GO_drop 5 (ih b t2 _ _ (by omega) b5 et2 (f1_up hB) (rH_up hR c2) (Or.inr ⟨t, q, c2, ?_, gup_at, b4⟩))
      rw [vb_at, upd_ne b3]
      have := hR b b2 b3
      rw [b1] at this
      exact this.2
theorem s92 {l : Launch} {E : jEnv} {A : Nat → Nat → Int32} {V : Nat → Int32} {O : Nat → Int64} {Q : jO → List jC → Prop} {q : Nat} {F : Nat → Nat → Prop} {T X Y : Nat → Prop} {e : Nat} {fr : Nat → Option Nat} {rk : Nat → Nat} {g0 : Nat → Option Nat} (hC : CH F Y g0 e fr rk) (hXY : ∀ p, X p → Y p) (hT : T e) (he : e < 12) (hF : rF A fr) (hQ : ∀ B g, f1 A B → rS B g → Mt F T X g → sz g 20 = sz g0 20 + 1 → (∀ p, Y p → g p = g0 p) → Q (.inl none) (hp B V O)) (hg : Mt F T X g0) (hR : rS A g0) (hge : ∀ p, ¬ g0 p = some e) (hq : ¬ fr q = none) (h0 : g0 q = none) : GO l E 92 0 [some (.ref 25), some (.int (nI q)), some (.int (nI e)), none, none, none] [] (hp A V O) 0 0 Q := by
  obtain ⟨t, et⟩ : ∃ t, fr q = some t := by
    cases y : fr q with
    | none => exact absurd y hq
    | some t => exact ⟨t, rfl⟩
  obtain ⟨c1, c2, c3, c4, c5⟩ := hC q t et
  refine R_iload z92_0 rfl ?_
  refine R_istore z92_1 (loc' := [some (.ref 25), some (.int (nI q)), some (.int (nI e)), some (.int (nI q)), none, none]) rfl rfl ?_
  refine R_aload z92_2 rfl ?_
  refine R_get z92_3 (k := 4) (f := 23) (by decide +kernel) rfl rfl ?_
  refine R_iload z92_6 rfl ?_
  refine R_ild z92_7 (n := 20) (f := A 43) (v := (nI (100 + t))) rfl (nin c1 (by decide)) (by rw [ncl (by omega)]; exact ((hF q c1).2 t et).2) ?_
  refine R_bipush z92_8 (v := 100) (by decide) ?_
  refine R_isub z92_10 ?_
  refine R_top (y := nI t) (s100) ?_
  refine R_istore z92_11 (loc' := [some (.ref 25), some (.int (nI q)), some (.int (nI e)), some (.int (nI q)), some (.int (nI t)), none]) rfl rfl ?_
  refine s92_lp hC hXY hT he hF hQ (rk q + 1) q t g0 A (by omega) (HS_0 hg h0 hq hge) et (fun _ _ => rfl) (fun p hp _ => hR p hp) (Or.inl ?_)
  have := hR q c1
  rw [h0] at this
  exact this

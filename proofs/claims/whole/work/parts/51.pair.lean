/-- the model's end: its code, its answer beside the law's array, the relation -/
def jMP (k : Int32) (O : Nat → Int64) : jO → List jC → Prop := fun o h => ∃ (v : Int32) (A : Nat → Nat → Int32) (V : Nat → Int32), o = .inl (some (.int v)) ∧ h = hp A V O ∧ V 6 = k ∧ (k = 0 → O 0 = v.toInt64) ∧ ∃ n r D m, Rel A V n r D m
def jMH (k : Int32) (O : Nat → Int64) : jO → List jC → Prop := fun o h => ∃ (v : Int32) (A : Nat → Nat → Int32) (V : Nat → Int32), o = .inl (some (.int v)) ∧ h = hp A V O ∧ V 6 = k ∧ (k = 0 → O 0 = if v = 0 then 0 else 1) ∧ ∃ n r D m, Rel A V n r D m
def jMN (k : Int32) (O : Nat → Int64) : jO → List jC → Prop := fun o h => ∃ (A : Nat → Nat → Int32) (V : Nat → Int32), o = .inl none ∧ h = hp A V O ∧ V 6 = k ∧ ∃ n r D m, Rel A V n r D m
def jHP (l : Launch) (E : jEnv) (M : Nat) (loc : List (Option Value)) (P : Int32 → (Nat → Int64) → jO → List jC → Prop) : jO → List jC → Prop := fun o h => ∃ (k : Int32) (A : Nat → Nat → Int32) (V : Nat → Int32) (O : Nat → Int64), o = .inl (some (.int k)) ∧ h = hp A V O ∧ GO l E M 0 loc [] (hp A V O) 0 0 (P k O)
theorem jHP_mk {l : Launch} {E : jEnv} {M : Nat} {loc : List (Option Value)} {P : Int32 → (Nat → Int64) → jO → List jC → Prop} {A : Nat → Nat → Int32} {V : Nat → Int32} {O : Nat → Int64} {k : Int32} (hg : GO l E M 0 loc [] (hp A V O) 0 0 (P k O)) : jHP l E M loc P (.inl (some (.int k))) (hp A V O) := ⟨k, A, V, O, rfl, rfl, hg⟩
theorem jMP_x {A : Nat → Nat → Int32} {V : Nat → Int32} {O : Nat → Int64} {n r D m : Nat} {v k : Int32} (h : Rel A V n r D m) (hk : ¬ k = 0) : jMP k O (.inl (some (.int v))) (hp A (va_up V 6 k) O) := ⟨v, A, _, rfl, rfl, rfl, fun z => absurd z hk, n, r, D, m, h.six k⟩
theorem jMH_x {A : Nat → Nat → Int32} {V : Nat → Int32} {O : Nat → Int64} {n r D m : Nat} {v k : Int32} (h : Rel A V n r D m) (hk : ¬ k = 0) : jMH k O (.inl (some (.int v))) (hp A (va_up V 6 k) O) := ⟨v, A, _, rfl, rfl, rfl, fun z => absurd z hk, n, r, D, m, h.six k⟩
theorem jMN_x {A : Nat → Nat → Int32} {V : Nat → Int32} {O : Nat → Int64} {n r D m : Nat} {k : Int32} (h : Rel A V n r D m) : jMN k O (.inl none) (hp A (va_up V 6 k) O) := ⟨A, _, rfl, rfl, rfl, n, r, D, m, h.six k⟩
theorem jMP_0 {A : Nat → Nat → Int32} {V : Nat → Int32} {O : Nat → Int64} {n r D m : Nat} {v w : Int32} (h : Rel A V n r D m) (hV : V 6 = 0) (e : w = v) : jMP 0 (vp_updL O 0 w.toInt64) (.inl (some (.int v))) (hp A V (vp_updL O 0 w.toInt64)) := ⟨v, A, V, rfl, rfl, hV, fun _ => by rw [e]; rfl, n, r, D, m, h⟩
theorem jMN_0 {A : Nat → Nat → Int32} {V : Nat → Int32} {O : Nat → Int64} {n r D m : Nat} (h : Rel A V n r D m) (hV : V 6 = 0) : jMN 0 O (.inl none) (hp A V O) := ⟨A, V, rfl, rfl, hV, n, r, D, m, h⟩
theorem jMH_1 {A : Nat → Nat → Int32} {V : Nat → Int32} {O : Nat → Int64} {n r D m : Nat} (h : Rel A V n r D m) (hV : V 6 = 0) : jMH 0 (vp_updL O 0 (if (1 : Int32) = 0 then 0 else 1)) (.inl (some (.int 1))) (hp A V (vp_updL O 0 (if (1 : Int32) = 0 then 0 else 1))) := ⟨1, A, V, rfl, rfl, hV, fun _ => rfl, n, r, D, m, h⟩
theorem jMH_0 {A : Nat → Nat → Int32} {V : Nat → Int32} {O : Nat → Int64} {n r D m : Nat} (h : Rel A V n r D m) (hV : V 6 = 0) : jMH 0 (vp_updL O 0 (if (0 : Int32) = 0 then 0 else 1)) (.inl (some (.int 0))) (hp A V (vp_updL O 0 (if (0 : Int32) = 0 then 0 else 1))) := ⟨0, A, V, rfl, rfl, hV, fun _ => rfl, n, r, D, m, h⟩
theorem up_hi {A : Nat → Nat → Int32} {k a : Nat} {f : Nat → Int32} (h : k < 26) (ha : 26 ≤ a) : va_up A k f a = A a := if_neg (by omega)
theorem mEq.up {A B : Nat → Nat → Int32} {V W : Nat → Int32} {k : Nat} {f : Nat → Int32} (e : mEq A V B W) (h : k < 26) : mEq A V (va_up B k f) W := ⟨fun a h1 h2 => (up_hi h h1).trans (e.1 a h1 h2), e.2⟩
theorem mEq.v {A : Nat → Nat → Int32} {V W : Nat → Int32} (h : W 7 = V 7 ∧ W 8 = V 8 ∧ W 9 = V 9 ∧ W 10 = V 10) : mEq A V A W := ⟨fun _ _ _ => rfl, h⟩
theorem Rel.bad2 {A : Nat → Nat → Int32} {V : Nat → Int32} {n r D m : Nat} {p c : Int32} (h : Rel A V n r D m) (e : jbad V p c) : p < 0 ∨ ¬ p < 20 ∨ c < 0 ∨ ¬ c < nI n := by rw [← h.v2]; exact e
theorem Rel.bad1 {A : Nat → Nat → Int32} {V : Nat → Int32} {n r D m : Nat} {c : Int32} (h : Rel A V n r D m) (e : c < 0 ∨ ¬ c < V 2) : c < 0 ∨ ¬ c < nI n := by rw [← h.v2]; exact e
theorem p100 {l : Launch} {E : jEnv} {A : Nat → Nat → Int32} {V : Nat → Int32} {O : Nat → Int64} {n r D m : Nat} {x1 : Int32} {x2 : Int32} {x3 : Int32} (h : Rel A V n r D m) : GO l E 100 0 [some (.ref 0), some (.int x1), some (.int x2), some (.int x3), some (.ref 45), none] [] (hp A V O) 0 0 (jHP l E 67 [some (.ref 25), some (.int x1), some (.int x2), some (.int x3)] jMP) := by
  have hn := h.n16
  refine t100 (s26 h.cwf (fun e => ?_) (fun e1 e2 => ?_) (fun e1 e2 => ?_))
  · exact ⟨_, _, _, rfl, Or.inr (Or.inl ⟨rfl, jHP_mk (s67 h.mwf (fun _ => jMP_x h (by decide)) (fun z _ => absurd z e) (fun z _ => absurd z e))⟩)⟩
  · exact ⟨_, _, _, rfl, Or.inr (Or.inr ⟨rfl, jHP_mk (s67 h.mwf (fun z => absurd e1 z) (fun _ _ => jMP_x h (by decide)) (fun _ z => absurd z e2))⟩)⟩
  · have e : mEq A V (cCrs A n x1 x2 x3) (va_up V 2 (nI (n + 1))) := ((((mEq.v ⟨rfl, rfl, rfl, rfl⟩).up (by decide)).up (by decide)).up (by decide)).up (by decide)
    exact ⟨_, _, _, rfl, Or.inl ⟨_, rfl, jHP_mk (s67 (e.wf h.mwf) (fun z => absurd e1 z) (fun _ z => absurd e2 (by omega)) (fun _ _ => jMP_0 (h.crs e1 e2) rfl rfl))⟩⟩
theorem p101 {l : Launch} {E : jEnv} {A : Nat → Nat → Int32} {V : Nat → Int32} {O : Nat → Int64} {n r D m : Nat} {x1 : Int32} {x2 : Int32} (h : Rel A V n r D m) : GO l E 101 0 [some (.ref 0), some (.int x1), some (.int x2), none] [] (hp A V O) 0 0 (jHP l E 69 [some (.ref 25), some (.int x1), some (.int x2), none] jMN) := by
  have hn := h.n16
  refine t101 (s27 h.cwf (fun e => ?_) (fun c o e1 e2 hc ho => ⟨fun e => ?_, fun e e3 => ?_, fun e e3 => ?_⟩))
  · exact ⟨_, _, _, rfl, Or.inr (Or.inl ⟨rfl, jHP_mk (s69x h.mwf (by rw [← h.v2]; exact e) (jMN_x h))⟩)⟩
  · subst e1 e2
    exact ⟨_, _, _, rfl, Or.inr (Or.inr ⟨rfl, jHP_mk (s69 h.mwf hc ho (by omega) (by omega) (fun _ => jMN_x h) (fun _ z => absurd ((h.rch (by omega) (by omega)).mp e) z))⟩)⟩
  · subst e1 e2
    exact ⟨_, _, _, rfl, Or.inr (Or.inr ⟨rfl, jHP_mk (s69 h.mwf hc ho (by omega) (by omega) (fun _ => jMN_x h) (fun z _ => absurd z ((h.nd c o (by omega) (by omega)).mp e3)))⟩)⟩
  · subst e1 e2
    have e9 : mEq A V (cNeed A c o n) V := ((mEq.v ⟨rfl, rfl, rfl, rfl⟩).up (by decide)).up (by decide)
    exact ⟨_, _, _, rfl, Or.inl ⟨rfl, jHP_mk (s69 (e9.wf h.mwf) hc ho (by omega) (by omega) (fun z => z.elim (fun y => absurd ((h.nd c o (by omega) (by omega)).mpr y) e3) (fun y => absurd ((h.rch (by omega) (by omega)).mpr y) e)) (fun _ _ => jMN_0 (h.need hc ho) rfl))⟩⟩
theorem p102 {l : Launch} {E : jEnv} {A : Nat → Nat → Int32} {V : Nat → Int32} {O : Nat → Int64} {n r D m : Nat} {x1 : Int32} (h : Rel A V n r D m) : GO l E 102 0 [some (.ref 0), some (.int x1), none] [] (hp A V O) 0 0 (jHP l E 70 [some (.ref 25), some (.int x1)] jMN) := by
  have hn := h.n16
  refine t102 (s28 (fun e => ?_) (fun e => ?_))
  · exact ⟨_, _, _, rfl, Or.inr ⟨rfl, jHP_mk (s70 (fun _ => jMN_x h) (fun z => absurd z e))⟩⟩
  · exact ⟨_, _, _, rfl, Or.inl ⟨rfl, jHP_mk (s70 (fun z => absurd e z) (fun _ => jMN_0 (h.pz _) rfl))⟩⟩
theorem p103 {l : Launch} {E : jEnv} {A : Nat → Nat → Int32} {V : Nat → Int32} {O : Nat → Int64} {n r D m : Nat} {x1 : Int32} (h : Rel A V n r D m) : GO l E 103 0 [some (.ref 0), some (.int x1), none] [] (hp A V O) 0 0 (jHP l E 71 [some (.ref 25), some (.int x1)] jMN) := by
  have hn := h.n16
  have h07 : V 0 = V 7 := h.v0.trans h.v7.symm
  refine t103 (s29 (fun e => ?_) (fun e e2 => ?_) (fun e e2 => ?_))
  · exact ⟨_, _, _, rfl, Or.inr ⟨rfl, jHP_mk (s71 (fun _ => jMN_x h) (fun z => absurd z (by rw [← h07]; exact e)))⟩⟩
  · exact ⟨_, _, _, rfl, Or.inl ⟨rfl, jHP_mk (s71 (fun z => absurd (show jrg x1 (V 7) 9999 by rw [← h07]; exact e) z) (fun _ => jMN_0 (h.day0 e2) rfl))⟩⟩
  · have e3 := e
    rw [h.v0] at e3
    obtain ⟨k, k1, k2, k3⟩ := jrg_nat (a := D) (b := 9999) e3 (by have := h.D9; omega) (by decide)
    have k4 : D < k := by
      rcases Nat.lt_or_ge D k with z | z
      · exact z
      · exact absurd (by rw [k3, h.v0]; congr 1; omega) e2
    exact ⟨_, _, _, rfl, Or.inl ⟨rfl, jHP_mk (s71 (fun z => absurd (show jrg x1 (V 7) 9999 by rw [← h07]; exact e) z) (fun _ => jMN_0 (h.day1 k3 k4 k2) rfl))⟩⟩
theorem p104 {l : Launch} {E : jEnv} {A : Nat → Nat → Int32} {V : Nat → Int32} {O : Nat → Int64} {n r D m : Nat} {x1 : Int32} {x2 : Int32} (h : Rel A V n r D m) : GO l E 104 0 [some (.ref 0), some (.int x1), some (.int x2), none] [] (hp A V O) 0 0 (jHP l E 72 [some (.ref 25), some (.int x1), some (.int x2)] jMN) := by
  have hn := h.n16
  refine t104 (s30 h.cwf (fun e => ?_) (fun c e1 hc => ⟨fun e => ?_, fun e => ?_⟩))
  · exact ⟨_, _, _, rfl, Or.inr (Or.inl ⟨rfl, jHP_mk (s72x h.mwf (h.bad1 e) (jMN_x h))⟩)⟩
  · subst e1
    exact ⟨_, _, _, rfl, Or.inr (Or.inr ⟨rfl, jHP_mk (s72 h.mwf hc (by omega) (fun _ => jMN_x h) (fun z => absurd z e))⟩)⟩
  · subst e1
    have e9 : mEq A V (va_up A 5 (upd (A 5) c x2)) V := (mEq.v ⟨rfl, rfl, rfl, rfl⟩).up (by decide)
    exact ⟨_, _, _, rfl, Or.inl ⟨rfl, jHP_mk (s72 (e9.wf h.mwf) hc (by omega) (fun z => absurd e z) (fun _ => jMN_0 h.rat rfl))⟩⟩
theorem p105 {l : Launch} {E : jEnv} {A : Nat → Nat → Int32} {V : Nat → Int32} {O : Nat → Int64} {n r D m : Nat} {x1 : Int32} {x2 : Int32} {x3 : Int32} (h : Rel A V n r D m) : GO l E 105 0 [some (.ref 0), some (.int x1), some (.int x2), some (.int x3), some (.ref 45), none] [] (hp A V O) 0 0 (jHP l E 82 [some (.ref 25), some (.int x1), some (.int x2), some (.int x3), none, none] jMP) := by
  have hn := h.n16
  refine t105 (s31 h.cwf (fun e => ?_) (fun p c e1 e2 hp2 hc => ⟨fun g1 => ?_, fun g1 g2 => ?_, fun g1 g2 g3 => ?_, fun g1 g2 g3 g4 g5 => ?_, fun g1 g2 g3 g4 g5 => ?_⟩))
  · exact ⟨_, _, _, rfl, Or.inr (Or.inl ⟨rfl, jHP_mk (s82x h.mwf (h.bad2 e) (jMP_x h (by decide)))⟩)⟩
  · subst e1 e2
    exact ⟨_, _, _, rfl, Or.inr (Or.inr (Or.inl ⟨rfl, jHP_mk (s82 h.mwf hp2 hc (by omega) (fun _ => jMP_x h (by decide)) (fun z _ => absurd z g1) (fun z _ _ => absurd z g1) (fun _ z _ _ _ _ => absurd z g1))⟩))⟩
  · subst e1 e2
    exact ⟨_, _, _, rfl, Or.inr (Or.inr (Or.inr (Or.inl ⟨rfl, jHP_mk (s82 h.mwf hp2 hc (by omega) (fun z => absurd g1 z) (fun _ _ => jMP_x h (by decide)) (fun _ z _ => absurd ((h.why hp2 hc).trans z) g2) (fun _ _ z _ _ _ => absurd ((h.why hp2 hc).trans z) g2))⟩)))⟩
  · subst e1 e2
    exact ⟨_, _, _, rfl, Or.inr (Or.inr (Or.inr (Or.inr ⟨rfl, jHP_mk (s82 h.mwf hp2 hc (by omega) (fun z => absurd g1 z) (fun _ z => absurd ((h.why hp2 hc).symm.trans g2) z) (fun _ _ _ => jMP_x h (by decide)) (fun _ _ _ z1 z2 _ => g3.elim (fun y => absurd ((h.room hc).symm.trans y) z1) (fun y => absurd z2 y)))⟩)))⟩
  · subst e1 e2
    have e9 : mEq A V (cAddP (cNote A c) (16 * p + c) r (V 0)) (va_up (va_up V 3 (nI (r + 1))) 4 (V 4 + 1)) := (((((((mEq.v (A := A) ⟨rfl, rfl, rfl, rfl⟩).up (by decide)).up (by decide)).up (by decide)).up (by decide)).up (by decide)).up (by decide)).up (by decide)
    refine ⟨_, _, _, rfl, Or.inl ⟨_, rfl, jHP_mk (s82 (e9.wf h.mwf) hp2 hc (by omega) (fun z => absurd g1 z) (fun _ z => absurd ((e9.why n r p c).trans ((h.why hp2 hc).symm.trans g2)) z) (fun _ _ z => z.elim (fun y => absurd ((h.room hc).trans ((e9.room r c).symm.trans y)) g3) (fun y => absurd g4 y)) (fun b _ _ _ _ hb => ?_))⟩⟩
    have hb1 : b = 1 := hb.trans (if_neg (fun z => g5 (by rw [h.pm c hc]; exact z)))
    subst hb1
    exact jMP_0 (h.addP hp2 hc g4) rfl rfl
  · subst e1 e2
    have e9 : mEq A V (cAddF (cNote A c) (16 * p + c) r (V 0)) (va_up V 3 (nI (r + 1))) := ((((((mEq.v (A := A) ⟨rfl, rfl, rfl, rfl⟩).up (by decide)).up (by decide)).up (by decide)).up (by decide)).up (by decide)).up (by decide)
    refine ⟨_, _, _, rfl, Or.inl ⟨_, rfl, jHP_mk (s82 (e9.wf h.mwf) hp2 hc (by omega) (fun z => absurd g1 z) (fun _ z => absurd ((e9.why n r p c).trans ((h.why hp2 hc).symm.trans g2)) z) (fun _ _ z => z.elim (fun y => absurd ((h.room hc).trans ((e9.room r c).symm.trans y)) g3) (fun y => absurd g4 y)) (fun b _ _ _ _ hb => ?_))⟩⟩
    have hb1 : b = 0 := hb.trans (if_pos (show x3 < A 27 c by rw [← h.pm c hc]; exact g5))
    subst hb1
    exact jMP_0 (h.addF hp2 hc g4) rfl rfl
theorem p106 {l : Launch} {E : jEnv} {A : Nat → Nat → Int32} {V : Nat → Int32} {O : Nat → Int64} {n r D m : Nat} {x1 : Int32} {x2 : Int32} (h : Rel A V n r D m) : GO l E 106 0 [some (.ref 0), some (.int x1), some (.int x2), some (.ref 45), none] [] (hp A V O) 0 0 (jHP l E 83 [some (.ref 25), some (.int x1), some (.int x2), none, none, none] jMP) := by
  have hn := h.n16
  refine t106 (s32 h.cwf (fun e => ?_) (fun p c e1 e2 hp2 hc => ⟨fun g1 => ?_, fun g1 g2 => ?_, fun g1 g2 => ?_⟩))
  · exact ⟨_, _, _, rfl, Or.inr (Or.inl ⟨rfl, jHP_mk (s83x h.mwf (h.bad2 e) (jMP_x h (by decide)))⟩)⟩
  · subst e1 e2
    exact ⟨_, _, _, rfl, Or.inr (Or.inr (Or.inl ⟨rfl, jHP_mk (s83 h.mwf hp2 hc (by omega) (fun _ => jMP_x h (by decide)) (fun z _ => absurd ((h.st c (by omega)).trans z) g1) (fun z _ => absurd ((h.st c (by omega)).trans z) g1))⟩))⟩
  · subst e1 e2
    exact ⟨_, _, _, rfl, Or.inr (Or.inr (Or.inr ⟨rfl, jHP_mk (s83 h.mwf hp2 hc (by omega) (fun z => absurd ((h.st c (by omega)).symm.trans g1) z) (fun _ _ => jMP_x h (by decide)) (fun _ z => absurd z g2))⟩))⟩
  · subst e1 e2
    have e9 : mEq A V (cAddP (cNote A c) (16 * p + c) r (V 0)) (va_up (va_up V 3 (nI (r + 1))) 4 (V 4 + 1)) := (((((((mEq.v (A := A) ⟨rfl, rfl, rfl, rfl⟩).up (by decide)).up (by decide)).up (by decide)).up (by decide)).up (by decide)).up (by decide)).up (by decide)
    exact ⟨_, _, _, rfl, Or.inl ⟨_, rfl, jHP_mk (s83 (e9.wf h.mwf) hp2 hc (by omega) (fun z => absurd (((mHas_c (A := A) (B := cAddP (cNote A c) (16 * p + c) r (V 0)) rfl _ r).trans (h.st c (by omega)).symm).trans g1) z) (fun _ z => absurd g2 z) (fun _ _ => jMP_0 (h.addP hp2 hc g2) rfl rfl))⟩⟩
theorem p107_1 {l : Launch} {E : jEnv} {A : Nat → Nat → Int32} {V : Nat → Int32} {O : Nat → Int64} {n r D m : Nat} {x1 : Int32} {x2 : Int32} (h : Rel A V n r D m) : GO l E 107 0 [some (.ref 0), some (.int x1), some (.int x2), some (.int 1), none] [] (hp A V O) 0 0 (jHP l E 84 [some (.ref 25), some (.int x1), some (.int x2), some (.int 1), none] jMN) := by
  have hn := h.n16
  refine t107 (s33_1f h.cwf (fun e => ?_) (fun p c e1 e2 hp2 hc => ⟨fun g1 => ?_, fun g1 g2 => ?_, fun g1 g2 => ?_⟩))
  · exact ⟨_, _, _, rfl, Or.inr (Or.inl ⟨rfl, jHP_mk (s84_1x h.mwf (h.bad2 e) (jMN_x h))⟩)⟩
  · subst e1 e2
    exact ⟨_, _, _, rfl, Or.inr (Or.inr ⟨rfl, jHP_mk (s84_1 h.mwf hp2 hc (by omega) (fun _ => jMN_x h) (fun z _ => absurd ((h.tc p c hp2 (by omega)).mp g1) z))⟩)⟩
  · subst e1 e2
    exact ⟨_, _, _, rfl, Or.inr (Or.inr ⟨rfl, jHP_mk (s84_1 h.mwf hp2 hc (by omega) (fun _ => jMN_x h) (fun _ z => absurd ((h.held hp2 hc).mpr z) g2))⟩)⟩
  · subst e1 e2
    have e9 : mEq A V (va_up A 8 (upd (A 8) c (A 8 c ^^^ (1 : Int32) <<< (nI p &&& 31)))) V := (mEq.v ⟨rfl, rfl, rfl, rfl⟩).up (by decide)
    exact ⟨_, _, _, rfl, Or.inl ⟨rfl, jHP_mk (s84_1 (e9.wf h.mwf) hp2 hc (by omega) (fun z => z.elim (fun y => absurd ((h.tc p c hp2 (by omega)).mpr y) g1) (fun y => absurd ((e9.held r _ _ _).mpr ((h.held hp2 hc).mp g2)) y)) (fun _ _ => jMN_0 (h.tch1 hp2 (by omega) g1) rfl))⟩⟩
theorem p107_0 {l : Launch} {E : jEnv} {A : Nat → Nat → Int32} {V : Nat → Int32} {O : Nat → Int64} {n r D m : Nat} {x1 : Int32} {x2 : Int32} (h : Rel A V n r D m) : GO l E 107 0 [some (.ref 0), some (.int x1), some (.int x2), some (.int 0), none] [] (hp A V O) 0 0 (jHP l E 84 [some (.ref 25), some (.int x1), some (.int x2), some (.int 0), none] jMN) := by
  have hn := h.n16
  refine t107 (s33_0f h.cwf (fun e => ?_) (fun p c e1 e2 hp2 hc => ⟨fun g1 => ?_, fun g1 => ?_⟩))
  · exact ⟨_, _, _, rfl, Or.inr (Or.inl ⟨rfl, jHP_mk (s84_0x h.mwf (h.bad2 e) (jMN_x h))⟩)⟩
  · subst e1 e2
    exact ⟨_, _, _, rfl, Or.inr (Or.inr ⟨rfl, jHP_mk (s84_0 h.mwf hp2 hc (by omega) (fun _ => jMN_x h) (fun z => absurd ((h.tch hp2 (by omega)).mpr z) g1))⟩)⟩
  · subst e1 e2
    have e9 : mEq A V (va_up A 8 (upd (A 8) c (A 8 c ^^^ (1 : Int32) <<< (nI p &&& 31)))) V := (mEq.v ⟨rfl, rfl, rfl, rfl⟩).up (by decide)
    exact ⟨_, _, _, rfl, Or.inl ⟨rfl, jHP_mk (s84_0 (e9.wf h.mwf) hp2 hc (by omega) (fun z => absurd z ((h.tch hp2 (by omega)).mp g1)) (fun _ => jMN_0 (h.tch0 hp2 (by omega) g1) rfl))⟩⟩
theorem Rel.useK {A : Nat → Nat → Int32} {V : Nat → Int32} {n r D m p c k x : Nat} (h : Rel A V n r D m) (hp2 : p < 20) (hc : c < n) (hk : k < r) (e : A 15 (16 * p + c) = nI k) (hx : x < r) (ex : mPass A (nI p) (nI c) (V 7) r = nI x) : x = k := by
  have hn := h.n16
  have hr := h.r300
  rw [h.v7, ← h.lp p c hp2 (by omega), e, nI_eq (by omega) (by omega)] at ex
  exact ex.symm
theorem Rel.useU {A : Nat → Nat → Int32} {V : Nat → Int32} {n r D m k u : Nat} (h : Rel A V n r D m) (hk : k < r) (hu : u ≤ 50) (e : A 36 k = nI u) : A 14 k = nI u := by
  obtain ⟨p, c, w, u', t, g1, g2, g3, g4, g5, g6, g7, g8, g9, g10, g11, _⟩ := h.rw k hk
  rw [g11, ← g10, e]
theorem p108 {l : Launch} {E : jEnv} {A : Nat → Nat → Int32} {V : Nat → Int32} {O : Nat → Int64} {n r D m : Nat} {x1 : Int32} {x2 : Int32} (h : Rel A V n r D m) : GO l E 108 0 [some (.ref 0), some (.int x1), some (.int x2), some (.ref 45), none] [] (hp A V O) 0 0 (jHP l E 85 [some (.ref 25), some (.int x1), some (.int x2), none, none] jMP) := by
  have hn := h.n16
  have hr := h.r300
  refine t108 (s34 h.h00 h.cwf (fun e => ?_) (fun p c e1 e2 hp2 hc => ⟨fun g1 => ?_, fun g1 k hk g2 => ?_⟩))
  · exact ⟨_, _, _, rfl, Or.inr (Or.inl ⟨rfl, jHP_mk (s85x h.mwf (h.bad2 e) (jMP_x h (by decide)))⟩)⟩
  · subst e1 e2
    obtain ⟨t, t1, t2, t3⟩ := h.cp c hc
    exact ⟨_, _, _, rfl, Or.inr (Or.inr ⟨rfl, jHP_mk (s85 h.mwf hp2 hc (by omega) (by rw [t2]; exact (nge (a := 50) (by omega) (by omega)).mpr t1) (fun _ => jMP_x h (by decide)) (fun z _ _ _ _ _ _ _ _ => absurd ((h.held hp2 hc).mpr z) g1) (fun z _ _ _ _ _ _ _ => absurd ((h.held hp2 hc).mpr z) g1))⟩)⟩
  · subst e1 e2
    obtain ⟨t, t1, t2, t3⟩ := h.cp c hc
    have hcap : A 28 c ≤ 50 := by rw [t2]; exact (nge (a := 50) (by omega) (by omega)).mpr t1
    have h07 : V 0 = V 7 := h.v0.trans h.v7.symm
    by_cases g3 : ¬ A 18 (16 * p + c) = V 0 ∧ ¬ A 4 c ≤ A 14 k
    · have eB : cUse A (16 * p + c) k (V 0) (A 4 c) = va_up (va_up A 14 (upd (A 14) k (A 14 k + 1))) 18 (upd (A 18) (16 * p + c) (V 0)) := if_pos g3
      rw [eB]
      have e9 : mEq A V (va_up (va_up A 14 (upd (A 14) k (A 14 k + 1))) 18 (upd (A 18) (16 * p + c) (V 0))) V := ((mEq.v ⟨rfl, rfl, rfl, rfl⟩).up (by decide)).up (by decide)
      refine ⟨_, _, _, rfl, Or.inl ⟨_, rfl, jHP_mk (s85 (e9.wf h.mwf) hp2 hc (by omega) hcap (fun z => absurd ((e9.held r _ _ _).mpr ((h.held hp2 hc).mp g1)) z) (fun _ x u hx hu ex eu y1 y2 => ?_) (fun _ x u hx hu ex eu y1 => ?_))⟩⟩
      · have ex' := (e9.pass _ _ _ _).symm.trans ex
        have hxk := h.useK hp2 hc hk g2 hx ex'
        subst hxk
        have e14 := h.useU hx hu eu
        have hu2 : u < 50 := by
          have y2' : nI u < nI t := by rw [← t2]; exact y2
          rw [nlt (by omega) (by omega)] at y2'; omega
        exact jMP_0 (h.use1 hp2 hc hx ex' eu hu2 ((h.held hp2 hc).mp g1)) rfl (upd_at.trans (by rw [e14, nI_1]))
      · have ex' := (e9.pass _ _ _ _).symm.trans ex
        have hxk := h.useK hp2 hc hk g2 hx ex'
        subst hxk
        have e14 := h.useU hx hu eu
        rcases y1 with y | y
        · exact absurd ((h.us (16 * p + c) (by omega)).trans (y.trans h07.symm)) g3.1
        · refine absurd ?_ g3.2
          rw [e14, t3, nge (by omega) (by omega)]
          have y' : ¬ nI u < nI t := by rw [← t2]; exact y
          rw [nlt (by omega) (by omega)] at y'; omega
    · have eB : cUse A (16 * p + c) k (V 0) (A 4 c) = va_up A 18 (upd (A 18) (16 * p + c) (V 0)) := if_neg g3
      rw [eB]
      have e9 : mEq A V (va_up A 18 (upd (A 18) (16 * p + c) (V 0))) V := (mEq.v ⟨rfl, rfl, rfl, rfl⟩).up (by decide)
      refine ⟨_, _, _, rfl, Or.inl ⟨_, rfl, jHP_mk (s85 (e9.wf h.mwf) hp2 hc (by omega) hcap (fun z => absurd ((e9.held r _ _ _).mpr ((h.held hp2 hc).mp g1)) z) (fun _ x u hx hu ex eu y1 y2 => ?_) (fun _ x u hx hu ex eu y1 => ?_))⟩⟩
      · have ex' := (e9.pass _ _ _ _).symm.trans ex
        have hxk := h.useK hp2 hc hk g2 hx ex'
        subst hxk
        have e14 := h.useU hx hu eu
        refine absurd ⟨fun z => y1 ((h.us (16 * p + c) (by omega)).symm.trans (z.trans h07)), fun z => ?_⟩ g3
        rw [e14, t3, nge (by omega) (by omega)] at z
        have y2' : nI u < nI t := by rw [← t2]; exact y2
        rw [nlt (by omega) (by omega)] at y2'; omega
      · have ex' := (e9.pass _ _ _ _).symm.trans ex
        have hxk := h.useK hp2 hc hk g2 hx ex'
        subst hxk
        exact jMP_0 h.use0 rfl (h.useU hx hu eu)
theorem p109 {l : Launch} {E : jEnv} {A : Nat → Nat → Int32} {V : Nat → Int32} {O : Nat → Int64} {n r D m : Nat} {x1 : Int32} {x2 : Int32} {x3 : Int32} (h : Rel A V n r D m) : GO l E 109 0 [some (.ref 0), some (.int x1), some (.int x2), some (.int x3), some (.ref 45), none] [] (hp A V O) 0 0 (jHP l E 86 [some (.ref 25), some (.int x1), some (.int x2), some (.int x3)] jMH) := by
  have hn := h.n16
  refine t109 (s35 h.cwf (fun e => ?_) (fun p c e1 e2 hp2 hc => ⟨fun g1 => ?_, fun g1 g2 => ?_, fun g1 g2 => ?_⟩))
  · exact ⟨_, _, _, rfl, Or.inr (Or.inl ⟨rfl, jHP_mk (s86x h.mwf (h.bad2 e) (jMH_x h (by decide)))⟩)⟩
  · subst e1 e2
    exact ⟨_, _, _, rfl, Or.inr (Or.inr ⟨rfl, jHP_mk (s86 h.mwf hp2 hc (by omega) (fun _ => jMH_x h (by decide)) (fun z _ => absurd z g1) (fun z _ => absurd z g1))⟩)⟩
  · subst e1 e2
    exact ⟨_, _, _, rfl, Or.inl ⟨_, rfl, jHP_mk (s86 h.mwf hp2 hc (by omega) (fun z => absurd g1 z) (fun _ _ => jMH_1 (h.six 0) rfl) (fun _ z => absurd ((h.holds hp2 hc g1).mp g2) z))⟩⟩
  · subst e1 e2
    exact ⟨_, _, _, rfl, Or.inl ⟨_, rfl, jHP_mk (s86 h.mwf hp2 hc (by omega) (fun z => absurd g1 z) (fun _ z => absurd ((h.holds hp2 hc g1).mpr z) g2) (fun _ _ => jMH_0 (h.six 0) rfl))⟩⟩
theorem p110 {l : Launch} {E : jEnv} {A : Nat → Nat → Int32} {V : Nat → Int32} {O : Nat → Int64} {n r D m : Nat} {x1 : Int32} {x2 : Int32} (h : Rel A V n r D m) : GO l E 110 0 [some (.ref 0), some (.int x1), some (.int x2), some (.ref 45), none] [] (hp A V O) 0 0 (jHP l E 87 [some (.ref 25), some (.int x1), some (.int x2), none] jMP) := by
  have hn := h.n16
  refine t110 (s36 h.cwf (fun e => ?_) (fun p c e1 e2 hp2 hc => ?_))
  · exact ⟨_, _, _, rfl, Or.inr ⟨rfl, jHP_mk (s87x h.mwf (h.bad2 e) (jMP_x h (by decide)))⟩⟩
  · subst e1 e2
    exact ⟨_, _, _, rfl, Or.inl ⟨_, rfl, jHP_mk (s87 h.mwf hp2 hc (by omega) (jMP_0 (h.six 0) rfl (h.lapse hp2 hc)))⟩⟩
theorem p111 {l : Launch} {E : jEnv} {A : Nat → Nat → Int32} {V : Nat → Int32} {O : Nat → Int64} {n r D m : Nat} {x1 : Int32} {x2 : Int32} (h : Rel A V n r D m) : GO l E 111 0 [some (.ref 0), some (.int x1), some (.int x2), some (.ref 45), none] [] (hp A V O) 0 0 (jHP l E 88 [some (.ref 25), some (.int x1), some (.int x2)] jMP) := by
  have hn := h.n16
  refine t111 (s37 h.cwf (fun e => ?_) (fun p c e1 e2 hp2 hc => ?_))
  · exact ⟨_, _, _, rfl, Or.inr ⟨rfl, jHP_mk (s88x h.mwf (h.bad2 e) (jMP_x h (by decide)))⟩⟩
  · subst e1 e2
    exact ⟨_, _, _, rfl, Or.inl ⟨_, rfl, jHP_mk (s88 h.mwf hp2 hc (by omega) (jMP_0 (h.six 0) rfl (h.fl p c hp2 (by omega))))⟩⟩
theorem p112 {l : Launch} {E : jEnv} {A : Nat → Nat → Int32} {V : Nat → Int32} {O : Nat → Int64} {n r D m : Nat} {x1 : Int32} {x2 : Int32} (h : Rel A V n r D m) : GO l E 112 0 [some (.ref 0), some (.int x1), some (.int x2), some (.ref 45), none] [] (hp A V O) 0 0 (jHP l E 89 [some (.ref 25), some (.int x1), some (.int x2)] jMP) := by
  have hn := h.n16
  refine t112 (s38 h.cwf (fun e => ?_) (fun p c e1 e2 hp2 hc => ?_))
  · exact ⟨_, _, _, rfl, Or.inr ⟨rfl, jHP_mk (s89x h.mwf (h.bad2 e) (jMP_x h (by decide)))⟩⟩
  · subst e1 e2
    exact ⟨_, _, _, rfl, Or.inl ⟨_, rfl, jHP_mk (s89 h.mwf hp2 hc (by omega) (jMP_0 (h.six 0) rfl (congrArg nI (h.why hp2 hc))))⟩⟩
theorem p113 {l : Launch} {E : jEnv} {A : Nat → Nat → Int32} {V : Nat → Int32} {O : Nat → Int64} {n r D m : Nat} {x1 : Int32} (h : Rel A V n r D m) : GO l E 113 0 [some (.ref 0), some (.int x1), some (.ref 45), none] [] (hp A V O) 0 0 (jHP l E 90 [some (.ref 25), some (.int x1)] jMP) := by
  have hn := h.n16
  refine t113 (s39 h.cwf (fun e => ?_) (fun c e1 hc => ?_))
  · exact ⟨_, _, _, rfl, Or.inr ⟨rfl, jHP_mk (s90x h.mwf (h.bad1 e) (jMP_x h (by decide)))⟩⟩
  · subst e1
    exact ⟨_, _, _, rfl, Or.inl ⟨_, rfl, jHP_mk (s90 h.mwf hc (by omega) (jMP_0 (h.six 0) rfl (h.room hc)))⟩⟩
theorem p114 {l : Launch} {E : jEnv} {A : Nat → Nat → Int32} {V : Nat → Int32} {O : Nat → Int64} {n r D m : Nat} {x1 : Int64} {x2 : Int32} {x3 : Int32} (h : Rel A V n r D m) : GO l E 114 0 [some (.ref 0), some (.long x1), none, some (.int x2), some (.int x3), some (.ref 45), none] [] (hp A V O) 0 0 (jHP l E 96 [some (.ref 25), some (.long x1), none, some (.int x2), some (.int x3), none, none, none, none, none, none] jMP) := by
  have hn := h.n16
  obtain ⟨k, hk⟩ := told_ex x2
  have hb : (∀ j, j < k → ¬ cBad V x1 j) ↔ (∀ j, j < k → ¬ sBad V x1 j) := ⟨fun z j hj y => z j hj ((h.bad (by have := hk.1; omega)).mpr y), fun z j hj y => z j hj ((h.bad (by have := hk.1; omega)).mp y)⟩
  refine t114 (s40 h.cwf hk (fun e => ?_) (fun e1 e2 => ?_) (fun e1 e2 e3 B fx lf hB f1 f2 f3 => ?_))
  · exact ⟨_, _, _, rfl, Or.inr (Or.inl ⟨rfl, jHP_mk (s96 h.mwf hk (fun _ => jMP_x h (by decide)) (fun z _ => absurd (hb.mpr z) e) (fun z _ _ _ _ _ _ _ _ _ => absurd (hb.mpr z) e))⟩)⟩
  · exact ⟨_, _, _, rfl, Or.inr (Or.inr ⟨rfl, jHP_mk (s96 h.mwf hk (fun z => absurd (hb.mp e1) z) (fun _ _ => jMP_x h (by decide)) (fun _ z1 z2 _ _ _ _ _ _ _ => absurd ⟨z1, z2⟩ e2))⟩)⟩
  · have e9 : mEq A V B (va_up V 5 (nI k)) := ⟨fun a h1 h2 => hB a (by omega) (by omega) (by omega) (by omega) (by omega), rfl, rfl, rfl, rfl⟩
    refine ⟨_, _, _, rfl, Or.inl ⟨_, rfl, jHP_mk (s96 (e9.wf h.mwf) hk (fun z => absurd (hb.mp e1) z) (fun _ z => absurd ⟨e2, e3⟩ z) (fun _ _ _ C gx lg hC k1 k2 k3 => ?_))⟩⟩
    obtain ⟨q1, q2⟩ := h.plan (x := x1) (dd := x3) hk.1 e1 rfl hB f1 f2 f3 hC k1 k2 k3 e9
    exact jMP_0 q2 rfl (congrArg nI q1)
theorem p115 {l : Launch} {E : jEnv} {A : Nat → Nat → Int32} {V : Nat → Int32} {O : Nat → Int64} {n r D m : Nat} {x1 : Int32} (h : Rel A V n r D m) : GO l E 115 0 [some (.ref 0), some (.int x1), some (.ref 45), none] [] (hp A V O) 0 0 (jHP l E 97 [some (.ref 25), some (.int x1)] jMP) := by
  have hn := h.n16
  refine t115 (s41 h.v5 h.m12 (fun e => ?_) (fun j e1 hj => ?_))
  · refine ⟨_, _, _, rfl, Or.inr ⟨rfl, jHP_mk (s97 h.v11 h.m12 (fun _ => jMP_x h (by decide)) (fun j e1 hj => ?_))⟩⟩
    have := h.m12
    subst e1
    rw [h.v5] at e
    exact e.elim (fun z => absurd z (nI_pos (by omega))) (fun z => absurd ((nlt (by omega) (by omega)).mpr hj) z)
  · have := h.m12
    subst e1
    refine ⟨_, _, _, rfl, Or.inl ⟨_, rfl, jHP_mk (s97 h.v11 h.m12 (fun z => ?_) (fun i e2 hi => ?_))⟩⟩
    · exact z.elim (fun z => absurd z (nI_pos (by omega))) (fun z => absurd ((nlt (by omega) (by omega)).mpr hj) z)
    · have : i = j := (nI_eq (by omega) (by omega)).mp e2.symm
      subst this
      exact jMP_0 (h.six 0) rfl (h.sd i hj)
theorem p116 {l : Launch} {E : jEnv} {A : Nat → Nat → Int32} {V : Nat → Int32} {O : Nat → Int64} {n r D m : Nat} {x1 : Int32} {x2 : Int32} (h : Rel A V n r D m) : GO l E 116 0 [some (.ref 0), some (.int x1), some (.int x2), some (.ref 45), none] [] (hp A V O) 0 0 (jHP l E 98 [some (.ref 25), some (.int x1), some (.int x2), none, none] jMP) := by
  have hn := h.n16
  refine t116 (s42 h.cwf (fun e => ?_) (fun c e1 hc => ⟨fun g1 => ?_, fun g1 => ?_⟩))
  · exact ⟨_, _, _, rfl, Or.inr (Or.inl ⟨rfl, jHP_mk (s98x h.mwf (h.bad1 e) (jMP_x h (by decide)))⟩)⟩
  · subst e1
    exact ⟨_, _, _, rfl, Or.inr (Or.inr ⟨rfl, jHP_mk (s98 h.mwf hc (by omega) (fun _ => jMP_x h (by decide)) (fun z => absurd g1 z))⟩)⟩
  · subst e1
    exact ⟨_, _, _, rfl, Or.inl ⟨_, rfl, jHP_mk (s98 h.mwf hc (by omega) (fun z => absurd z g1) (fun _ => jMP_0 (h.six 0) rfl ((h.tom hc 20 0 0 rfl).trans (by rw [Int32.sub_zero]))))⟩⟩
theorem p117 {l : Launch} {E : jEnv} {A : Nat → Nat → Int32} {V : Nat → Int32} {O : Nat → Int64} {n r D m : Nat} {x1 : Int32} (h : Rel A V n r D m) : GO l E 117 0 [some (.ref 0), some (.int x1), some (.ref 45), none] [] (hp A V O) 0 0 (jHP l E 99 [some (.ref 25), some (.int x1), none, none, none, none] jMP) := by
  have hn := h.n16
  refine t117 (s43 h.cwf (fun e => ?_) (fun e => ?_) (fun e => ?_) (fun e => ?_) (fun e => ?_))
  · exact ⟨_, _, _, rfl, Or.inl ⟨_, rfl, jHP_mk (s99 h.mwf (fun z => absurd (show jrg x1 0 3 by rw [e]; decide) z) (fun _ => jMP_0 (h.six 0) rfl (h.v2.trans h.v9.symm)) (fun z => absurd (e.symm.trans z) (by decide)) (fun z => absurd (e.symm.trans z) (by decide)) (fun z => absurd (e.symm.trans z) (by decide)))⟩⟩
  · exact ⟨_, _, _, rfl, Or.inl ⟨_, rfl, jHP_mk (s99 h.mwf (fun z => absurd (show jrg x1 0 3 by rw [e]; decide) z) (fun z => absurd (e.symm.trans z) (by decide)) (fun _ => jMP_0 (h.six 0) rfl (h.v3.trans h.v10.symm)) (fun z => absurd (e.symm.trans z) (by decide)) (fun z => absurd (e.symm.trans z) (by decide)))⟩⟩
  · exact ⟨_, _, _, rfl, Or.inl ⟨_, rfl, jHP_mk (s99 h.mwf (fun z => absurd (show jrg x1 0 3 by rw [e]; decide) z) (fun z => absurd (e.symm.trans z) (by decide)) (fun z => absurd (e.symm.trans z) (by decide)) (fun _ => jMP_0 (h.six 0) rfl (h.v4)) (fun z => absurd (e.symm.trans z) (by decide)))⟩⟩
  · exact ⟨_, _, _, rfl, Or.inl ⟨_, rfl, jHP_mk (s99 h.mwf (fun z => absurd (show jrg x1 0 3 by rw [e]; decide) z) (fun z => absurd (e.symm.trans z) (by decide)) (fun z => absurd (e.symm.trans z) (by decide)) (fun z => absurd (e.symm.trans z) (by decide)) (fun _ => jMP_0 (h.six 0) rfl (congrArg nI (h.all n (Nat.le_refl _)))))⟩⟩
  · have e2 : ¬ jrg x1 0 3 := fun z => e.elim z.1 (fun y => y z.2)
    exact ⟨_, _, _, rfl, Or.inr ⟨rfl, jHP_mk (s99 h.mwf (fun _ => jMP_x h (by decide)) (fun z => absurd (show jrg x1 0 3 by rw [z]; decide) e2) (fun z => absurd (show jrg x1 0 3 by rw [z]; decide) e2) (fun z => absurd (show jrg x1 0 3 by rw [z]; decide) e2) (fun z => absurd (show jrg x1 0 3 by rw [z]; decide) e2))⟩⟩

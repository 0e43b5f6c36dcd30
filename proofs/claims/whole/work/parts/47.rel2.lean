theorem Rel.sum {A : Nat → Nat → Int32} {V : Nat → Int32} {n r D m c : Nat} (h : Rel A V n r D m) (hc : c < n) : ∀ k, k ≤ 20 → mSum A V r c k = A 29 c * nI (cCnt A V c k)
  | 0, _ => by rw [mSum, cCnt]; exact (Int32.mul_zero).symm
  | k + 1, hk => by
    rw [mSum, cCnt, h.sum hc k (by omega)]
    by_cases e : mCounts A V r k c
    · rw [if_pos e, if_pos ((h.cnts (by omega) hc).mpr e), ← nI_1, Int32.mul_add, Int32.mul_one]
    · rw [if_neg e, if_neg (fun z => e ((h.cnts (by omega) hc).mp z))]
      exact Int32.add_zero _
theorem if0 {x : Int32} : (if (0 : Int32) < x then x else 0) = if 0 ≤ x then x else 0 := by
  by_cases e : (0 : Int32) < x
  · rw [if_pos e, if_pos (Int32.le_of_lt e)]
  · rw [if_neg e]
    by_cases e2 : (0 : Int32) ≤ x
    · rw [if_pos e2]; exact Int32.le_antisymm e2 (Int32.not_lt.mp e)
    · rw [if_neg e2]
theorem Rel.room {A : Nat → Nat → Int32} {V : Nat → Int32} {n r D m c : Nat} (h : Rel A V n r D m) (hc : c < n) : cRoom A V c = mRoom A V r c := by
  have hn := h.n16
  unfold cRoom mRoom
  rw [h.sum hc 20 (Nat.le_refl _), h.td c (by omega), h.rt c hc]
  exact if0
theorem Rel.tomB {A : Nat → Nat → Int32} {V : Nat → Int32} {n r D m p c : Nat} (h : Rel A V n r D m) (hp : p < 20) (hc : c < n) : cLap A p c = V 0 + 1 ↔ mTomB A V r p c := by
  have hD := h.D9
  have hr := h.r300
  unfold mTomB
  rw [h.v0, nI_1]
  have hh := h.held hp hc
  rcases h.lap hp hc with ⟨e1, e2⟩ | ⟨x, y, hx, e1, e0, e2, e3, e4⟩
  · rw [e2]
    refine ⟨fun z => absurd z.symm (nm1 (by omega)), fun z => ?_⟩
    have z1 := z.1.1
    rw [e1] at z1
    exact absurd (by decide) z1
  · rw [← hh, e3, e1, ncl (by omega), e4, h.v7, nI_1]
    refine ⟨fun z => ⟨?_, z⟩, fun z => z.2⟩
    unfold cHold
    rw [e3, h.v0, z, nlt (by omega) (by omega)]; omega
theorem sub0 {i b : Int32} : b = i ↔ i - b = 0 := by
  refine ⟨fun z => by rw [z]; exact Int32.sub_self i, fun z => ?_⟩
  have := congrArg (fun y => y + b) z
  rw [Int32.sub_add_cancel, Int32.zero_add] at this
  exact this.symm
theorem Rel.tom {A : Nat → Nat → Int32} {V : Nat → Int32} {n r D m c : Nat} {i : Int32} (h : Rel A V n r D m) (hc : c < n) : ∀ d k b, k + d = 20 → cTom A V c i d k b = mTom A V r c d k (i - b)
  | 0, _, _, _ => rfl
  | d + 1, k, b, hk => by
    rw [cTom, mTom, h.tom hc d (k + 1) b (by omega), h.tom hc d (k + 1) (b + 1) (by omega)]
    have e3 : i - (b + 1) = i - b + -1 := by rw [← Int32.sub_sub, Int32.sub_eq_add_neg]
    by_cases e : cLap A k c = V 0 + 1
    · rw [if_pos e, if_pos ((h.tomB (by omega) hc).mp e)]
      by_cases e2 : b = i
      · rw [if_pos e2, if_pos (sub0.mp e2)]
      · rw [if_neg e2, if_neg (fun z => e2 (sub0.mpr z)), e3]
    · rw [if_neg e, if_neg (fun z => e ((h.tomB (by omega) hc).mpr z))]
theorem Rel.pc {A : Nat → Nat → Int32} {V : Nat → Int32} {n r D m c : Nat} (h : Rel A V n r D m) (hc : c < n) : ∀ k, k ≤ 20 → cCnt A V c k = mPc A V r c k
  | 0, _ => rfl
  | k + 1, hk => by
    rw [cCnt, mPc, h.pc hc k (by omega)]
    by_cases e : mCounts A V r k c
    · rw [if_pos e, if_pos ((h.cnts (by omega) hc).mpr e)]
    · rw [if_neg e, if_neg (fun z => e ((h.cnts (by omega) hc).mp z))]
theorem Rel.all {A : Nat → Nat → Int32} {V : Nat → Int32} {n r D m : Nat} (h : Rel A V n r D m) : ∀ k, k ≤ n → cAll A V k = mPairs A V r k
  | 0, _ => rfl
  | k + 1, hk => by rw [cAll, mPairs, h.all k (by omega), h.pc (by omega) 20 (Nat.le_refl _)]
theorem cFit_b {A : Nat → Nat → Int32} {V : Nat → Int32} {c p : Nat} {dd : Int32} (hp : p < 20) : ∀ k, k ≤ 20 → (jbit (cFit A V c dd k) (nI p) ↔ p < k ∧ ¬ cLap A p c - V 0 ≤ 0 ∧ ¬ dd < cLap A p c - V 0)
  | 0, _ => ⟨fun z => absurd z (jbit_0 (by omega)), fun z => absurd z.1 (by omega)⟩
  | k + 1, hk => by
    rw [cFit]
    by_cases e : ¬ cLap A k c - V 0 ≤ 0 ∧ ¬ dd < cLap A k c - V 0
    · rw [if_pos e, jbit_or (by omega), jbit_one (by omega) (by omega), cFit_b hp k (by omega)]
      constructor
      · rintro (z | z)
        · exact ⟨by omega, z.2⟩
        · subst z; exact ⟨by omega, e⟩
      · intro z
        by_cases y : k = p
        · exact Or.inr y
        · exact Or.inl ⟨by omega, z.2⟩
    · rw [if_neg e, cFit_b hp k (by omega)]
      constructor
      · intro z; exact ⟨by omega, z.2⟩
      · intro z
        by_cases y : k = p
        · subst y; exact absurd z.2 e
        · exact ⟨by omega, z.2⟩
theorem Rel.fit {A : Nat → Nat → Int32} {V : Nat → Int32} {n r D m p c s : Nat} {dd : Int32} {x : Int64} (h : Rel A V n r D m) (hp : p < 20) (hc : c < n) (hs : mSe x s = nI c) : jbit (cFit A V c dd 20) (nI p) ↔ mFit A V r x dd s p := by
  have hD := h.D9
  have hr := h.r300
  unfold mFit
  rw [cFit_b hp 20 (Nat.le_refl _), hs]
  have hh := h.held hp hc
  rcases h.lap hp hc with ⟨e1, e2⟩ | ⟨y, z, hy, e1, e0, e3, e4, e5⟩
  · constructor
    · intro w
      refine absurd ?_ w.2.1
      rw [e2, h.v0]
      have h1 : ((-1 : Int32) - nI D).toInt = -1 - D := by
        rw [Int32.toInt_sub, nI_toInt (by omega), show (-1 : Int32).toInt = -1 by decide, Int.bmod_def]
        have e32 : ((2 ^ 32 : Nat) : Int) = 4294967296 := by decide
        rw [e32]
        split <;> omega
      rw [Int32.le_iff_toInt_le, h1]
      have : (0 : Int32).toInt = 0 := by decide
      omega
    · intro w
      have z1 := w.1.1
      rw [e1] at z1
      exact absurd (by decide) z1
  · rw [← hh, e4, e1, ncl (by omega), e5, h.v7, h.v0]
    unfold cHold
    rw [e4, h.v0, nlt (by omega) (by omega)]
    have e : nI z - nI D ≤ 0 ↔ ¬ D < z := by
      rw [Int32.le_iff_toInt_le, pk_sub_toInt (by omega) (by omega)]
      have : (0 : Int32).toInt = 0 := by decide
      omega
    rw [e]
    constructor
    · rintro ⟨_, a, b⟩; exact ⟨by omega, b⟩
    · rintro ⟨a, b⟩; exact ⟨hp, by omega, b⟩
theorem bv15a {w : Nat} (i : Nat) (hi : 4 ≤ i) : (15#w).getLsbD i = false := by
  rw [BitVec.getLsbD_ofNat]
  have : (15 : Nat).testBit i = false := Nat.testBit_lt_two_pow (Nat.lt_of_lt_of_le (by decide : 15 < 2 ^ 4) (Nat.pow_le_pow_right (by decide) hi))
  rw [this]; simp
theorem cSe_m {x : Int64} {k : Nat} (hk : k < 12) : cSeat x k = mSe x k := by
  have e : ∀ k : Fin 12, ((4 * nI k.1).toInt64.toUInt64 &&& Int64.toUInt64 63).toNat % 64 = 4 * k.1 := by decide +kernel
  have e2 : ∀ k : Fin 12, (((4 * nI k.1).toInt64 &&& 63).toBitVec.smod 64).toNat = 4 * k.1 := by decide +kernel
  have e' := e ⟨k, hk⟩
  have e2' := e2 ⟨k, hk⟩
  unfold cSeat mSe
  rw [← Int32.toBitVec_inj, Int32.toBitVec_and]
  rw [Int64.toBitVec_toInt32, Int64.toBitVec_toInt32, Int64.toBitVec_and, Int64.toBitVec_shiftRight]
  apply BitVec.eq_of_getLsbD_eq
  intro i hi
  rw [BitVec.getLsbD_and, BitVec.getLsbD_signExtend, BitVec.getLsbD_signExtend, BitVec.getLsbD_and]
  rw [show Int64.toBitVec 15 = 15#64 from rfl, show Int32.toBitVec 15 = 15#32 from rfl]
  by_cases h4 : 4 ≤ i
  · rw [bv15a i h4, bv15a i h4]; simp [show i < 64 by omega]
  · have a : (x.toUInt64 >>> ((4 * nI k).toInt64.toUInt64 &&& Int64.toUInt64 63)).toInt64.toBitVec.getLsbD i = x.toBitVec.getLsbD (4 * k + i) := by
      show (x.toUInt64 >>> ((4 * nI k).toInt64.toUInt64 &&& Int64.toUInt64 63)).toBitVec.getLsbD i = _
      rw [UInt64.toBitVec_shiftRight, BitVec.ushiftRight_eq', BitVec.getLsbD_ushiftRight]
      have : (((4 * nI k).toInt64.toUInt64 &&& Int64.toUInt64 63).toBitVec % 64).toNat = 4 * k := e'
      rw [this]; rfl
    have b : (x.toBitVec.sshiftRight' (((4 * nI k).toInt64 &&& 63).toBitVec.smod 64)).getLsbD i = x.toBitVec.getLsbD (4 * k + i) := by
      rw [BitVec.sshiftRight', e2', BitVec.getLsbD_sshiftRight]
      simp [show 4 * k + i < 64 by omega, show ¬ 64 ≤ i by omega]
    rw [a, b]
    have c : ∀ i : Fin 4, (15#64).getLsbD i.1 = true ∧ (15#32).getLsbD i.1 = true := by decide
    rw [(c ⟨i, by omega⟩).1, (c ⟨i, by omega⟩).2]
    simp [show i < 64 by omega]

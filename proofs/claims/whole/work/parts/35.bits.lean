theorem jb_and (m : Nat) (hm : m < 32) : (nI m &&& 31).toBitVec.smod 32#32 = BitVec.ofNat 32 m := by
  have h : ∀ k : Fin 32, (nI k.1 &&& 31).toBitVec.smod 32#32 = BitVec.ofNat 32 k.1 := by decide +kernel
  exact h ⟨m, hm⟩
theorem jb_s0 {x : BitVec 32} {m : Nat} (hm : m < 32) : (x.sshiftRight m).getLsbD 0 = x.getLsbD m := by
  rw [BitVec.getLsbD_sshiftRight]
  simp [hm]
theorem jbit_iff {x : Int32} {m : Nat} (hm : m < 32) : jbit x (nI m) ↔ x.toBitVec.getLsbD m = true := by
  unfold jbit
  rw [← Int32.toBitVec_inj, Int32.toBitVec_and, Int32.toBitVec_shiftRight]
  rw [show (32 : BitVec 32) = 32#32 from rfl, jb_and m hm]
  have e : (BitVec.ofNat 32 m).toNat = m := by simp; omega
  rw [BitVec.sshiftRight', e]
  constructor
  · intro h
    rcases hc : x.toBitVec.getLsbD m with _ | _
    · refine absurd ?_ h
      apply BitVec.eq_of_getLsbD_eq
      intro i hi
      rw [BitVec.getLsbD_and]
      rcases i with _ | i
      · rw [jb_s0 hm, hc]; rfl
      · simp [show (Int32.toBitVec 1).getLsbD (i+1) = false from by simp [show Int32.toBitVec 1 = 1#32 from rfl]]
    · rfl
  · intro h z
    have z2 := congrArg (fun b => b.getLsbD 0) z
    rw [BitVec.getLsbD_and, jb_s0 hm, h] at z2
    exact absurd z2 (by decide)
theorem jbit_or {x y : Int32} {m : Nat} (hm : m < 32) : jbit (x ||| y) (nI m) ↔ jbit x (nI m) ∨ jbit y (nI m) := by
  rw [jbit_iff hm, jbit_iff hm, jbit_iff hm, Int32.toBitVec_or, BitVec.getLsbD_or, Bool.or_eq_true]
theorem jbit_and {x y : Int32} {m : Nat} (hm : m < 32) : jbit (x &&& y) (nI m) ↔ jbit x (nI m) ∧ jbit y (nI m) := by
  rw [jbit_iff hm, jbit_iff hm, jbit_iff hm, Int32.toBitVec_and, BitVec.getLsbD_and, Bool.and_eq_true]
theorem jbit_not {x : Int32} {m : Nat} (hm : m < 32) : jbit (x ^^^ (-1)) (nI m) ↔ ¬ jbit x (nI m) := by
  rw [jbit_iff hm, jbit_iff hm, Int32.toBitVec_xor, BitVec.getLsbD_xor, show Int32.toBitVec (-1) = BitVec.allOnes 32 from rfl, BitVec.getLsbD_allOnes]
  cases x.toBitVec.getLsbD m <;> simp [hm]
theorem jbit_one {a m : Nat} (ha : a < 32) (hm : m < 32) : jbit ((1 : Int32) <<< (nI a &&& 31)) (nI m) ↔ a = m := by
  have h : ∀ a m : Fin 32, jbit ((1 : Int32) <<< (nI a.1 &&& 31)) (nI m.1) ↔ a.1 = m.1 := by decide +kernel
  exact h ⟨a, ha⟩ ⟨m, hm⟩
theorem jbit_0 {m : Nat} (hm : m < 32) : ¬ jbit 0 (nI m) := by
  have h : ∀ m : Fin 32, ¬ jbit 0 (nI m.1) := by decide +kernel
  exact h ⟨m, hm⟩
theorem jbit_xor1 {x : Int32} {a m : Nat} (ha : a < 32) (hm : m < 32) : jbit (x ^^^ (1 : Int32) <<< (nI a &&& 31)) (nI m) ↔ (if a = m then ¬ jbit x (nI m) else jbit x (nI m)) := by
  have h1 := jbit_one ha hm
  rw [jbit_iff hm] at h1
  rw [jbit_iff hm, jbit_iff hm, Int32.toBitVec_xor, BitVec.getLsbD_xor]
  split
  · rename_i e
    rw [h1.mpr e]
    cases x.toBitVec.getLsbD m <;> decide
  · rename_i e
    rcases hc : ((1 : Int32) <<< (nI a &&& 31)).toBitVec.getLsbD m with _ | _
    · simp
    · exact absurd (h1.mp hc) e
theorem jbit_1 {x m : Int32} : jbit x m ↔ (x >>> (m &&& 31)) &&& 1 = 1 := by
  have h : ∀ y : Int32, y &&& 1 = 0 ∨ y &&& 1 = 1 := by
    intro y
    rw [← Int32.toBitVec_inj, ← Int32.toBitVec_inj, Int32.toBitVec_and, show Int32.toBitVec 1 = 1#32 from rfl, show Int32.toBitVec 0 = 0#32 from rfl, BitVec.and_one_eq_setWidth_ofBool_getLsbD]
    cases y.toBitVec.getLsbD 0
    · left; rfl
    · right; rfl
  constructor
  · intro z; exact (h _).resolve_left z
  · intro z; unfold jbit; rw [z]; decide

def jgood (w : Cond) : Bool := decide (w ∈ lw_tbl) && goodWord w
theorem jgood_spec {w : Cond} (h : jgood w = true) : w ∈ jGW := by
  simp only [jgood, Bool.and_eq_true, decide_eq_true_eq] at h
  exact jGW_of h.1 h.2
def jEx : List String := ["java/lang/RuntimeException", "java/lang/Exception"]
def jDecl : List MethodName := [⟨"java/lang/RuntimeException", "<init>", "(Ljava/lang/String;)V"⟩, ⟨"java/lang/Exception", "<init>", "(Ljava/lang/String;)V"⟩, ⟨"java/lang/Throwable", "<init>", "(Ljava/lang/String;)V"⟩]
def jCast : List String := ["java/lang/UnsupportedOperationException", "java/lang/IllegalStateException", "java/lang/IllegalArgumentException", "java/lang/IndexOutOfBoundsException"]
def jDe : List Cond := jDecl.map Cond.declares ++ jCast.map (fun x => Cond.castable x x)
theorem jXa0 : ∀ w ∈ vx_atS "TrainingRows" 49 "java/lang/UnsupportedOperationException" jEx, jgood w = true ∨ w ∈ jDe := by decide +kernel
theorem jXa1 : ∀ w ∈ vx_atS "TrainingRows" 68 "java/lang/IllegalStateException" jEx, jgood w = true ∨ w ∈ jDe := by decide +kernel
theorem jXa2 : ∀ w ∈ vx_atS "TrainingRows" 179 "java/lang/IllegalArgumentException" jEx, jgood w = true ∨ w ∈ jDe := by decide +kernel
theorem jXa3 : ∀ w ∈ vx_atS "TrainingRows" 187 "java/lang/IndexOutOfBoundsException" jEx, jgood w = true ∨ w ∈ jDe := by decide +kernel
theorem jXa : ∀ q ∈ jXL, ∀ w ∈ vx_atS "TrainingRows" q.2.2.2.1 q.2.2.2.2.1 jEx, w ∈ jGW ∨ w ∈ jDe := by
  intro q hq
  have hq2 : (q.2.2.2.1 = 49 ∧ q.2.2.2.2.1 = "java/lang/UnsupportedOperationException") ∨ (q.2.2.2.1 = 68 ∧ q.2.2.2.2.1 = "java/lang/IllegalStateException") ∨ (q.2.2.2.1 = 179 ∧ q.2.2.2.2.1 = "java/lang/IllegalArgumentException") ∨ (q.2.2.2.1 = 187 ∧ q.2.2.2.2.1 = "java/lang/IndexOutOfBoundsException") := by
    revert q; decide +kernel
  intro w hw
  rcases hq2 with ⟨h1, h2⟩ | ⟨h1, h2⟩ | ⟨h1, h2⟩ | ⟨h1, h2⟩
  · rw [h1, h2] at hw; exact (jXa0 w hw).imp jgood_spec id
  · rw [h1, h2] at hw; exact (jXa1 w hw).imp jgood_spec id
  · rw [h1, h2] at hw; exact (jXa2 w hw).imp jgood_spec id
  · rw [h1, h2] at hw; exact (jXa3 w hw).imp jgood_spec id
theorem jXg : ∀ q ∈ jXL, ∀ w ∈ Cond.classLink "TrainingRows" q.2.1 q.2.2.2.2.1 :: Cond.initialized q.2.2.2.2.1 :: vx_atS "TrainingRows" q.2.2.2.1 q.2.2.2.2.1 jEx, vx_ot w = true := by decide +kernel
theorem jXk : ∀ q ∈ jXL, jgood (Cond.classLink "TrainingRows" q.2.1 q.2.2.2.2.1) = true ∧ jgood (Cond.initialized q.2.2.2.2.1) = true ∧ Bundle.fit q.2.2.2.2.1 = true := by decide +kernel
theorem jXf : ∀ n ∈ jEx, Bundle.fit n = true := by decide +kernel
theorem jXo : ∀ q ∈ jXL, jcn (jo q.1.1) = "TrainingRows" ∧ (jh q.1.1).isEmpty = true := by decide +kernel
theorem jXc : ∀ q ∈ jXL, jcode q.1.1 q.1.2 = some (.new q.2.1, 3) ∧ jcode q.1.1 (q.1.2 + 3) = some (.dup, 1) ∧ jcode q.1.1 (q.1.2 + 4) = some (.ldc q.2.2.1, 2) ∧ jcode q.1.1 (q.1.2 + 6) = some (.invokespecial q.2.2.2.1, 3) ∧ jcode q.1.1 (q.1.2 + 9) = some (.athrow, 1) := by decide +kernel
def jStr : List (Nat × String) := jXL.map (fun q => (q.2.2.1, q.2.2.2.2.2))
def jNcL : List (String × String) := [("java/lang/UnsupportedOperationException", "java/lang/IllegalStateException"), ("java/lang/UnsupportedOperationException", "java/lang/IllegalArgumentException"), ("java/lang/UnsupportedOperationException", "java/lang/IndexOutOfBoundsException"), ("java/lang/IllegalStateException", "java/lang/UnsupportedOperationException"), ("java/lang/IllegalStateException", "java/lang/IllegalArgumentException"), ("java/lang/IllegalStateException", "java/lang/IndexOutOfBoundsException"), ("java/lang/IllegalArgumentException", "java/lang/UnsupportedOperationException"), ("java/lang/IllegalArgumentException", "java/lang/IllegalStateException"), ("java/lang/IllegalArgumentException", "java/lang/IndexOutOfBoundsException"), ("java/lang/IndexOutOfBoundsException", "java/lang/UnsupportedOperationException"), ("java/lang/IndexOutOfBoundsException", "java/lang/IllegalStateException"), ("java/lang/IndexOutOfBoundsException", "java/lang/IllegalArgumentException")]
/-- the handlers: their classes by the words, and that the rows ahead name other classes -/
theorem jHk : ∀ i, i < 119 → ∀ q ∈ (jh i).zip (jHC.getD i []), q.1.1 = q.2.1 ∧ q.1.2.1 = q.2.2.1 ∧ q.1.2.2.1 = q.2.2.2.1 ∧ q.1.2.2.2 ≠ 0 ∧ jgood (Cond.classLink (jcn (jo i)) q.1.2.2.2 q.2.2.2.2) = true ∧ q.2.2.2.2 ∈ jCast := by decide +kernel
theorem jHl : ∀ i, i < 119 → (jh i).length = (jHC.getD i []).length := by decide +kernel

def jY (k f : Nat) : FieldType := (jYs.getD k (fun _ => .int)) f
def jrt : FieldType → Bool
  | .object _ => true
  | .array _ => true
  | _ => false
theorem jcl_facts {k : Nat} {r : vw_C} (h : jCl[k]? = some r) : (∀ f, f < r.2.2 → parseFieldDescriptor (r.2.1 f).2.2.1 = some (jY k f)) ∧ (∀ a, a < r.2.2 → ∀ b, b < r.2.2 → a ≠ b → (r.2.1 a).2.1 ≠ (r.2.1 b).2.1) ∧ (∀ f, f < r.2.2 → (r.2.1 f).2.2.2 = false → jY k f = .int) ∧ (∀ f, f < r.2.2 → (r.2.1 f).2.2.2 = true → jrt (jY k f) = true) ∧ (∀ f, f < r.2.2 → (r.2.1 f).1 = jcn k) ∧ r.1 = jcn k := by
  match k, h with
  | 0, h => cases h; exact ⟨by decide +kernel, by decide +kernel, by decide +kernel, by decide +kernel, by decide +kernel, by decide +kernel⟩
  | 1, h => cases h; exact ⟨by decide +kernel, by decide +kernel, by decide +kernel, by decide +kernel, by decide +kernel, by decide +kernel⟩
  | 2, h => cases h; exact ⟨by decide +kernel, by decide +kernel, by decide +kernel, by decide +kernel, by decide +kernel, by decide +kernel⟩
  | 3, h => cases h; exact ⟨by decide +kernel, by decide +kernel, by decide +kernel, by decide +kernel, by decide +kernel, by decide +kernel⟩
  | 4, h => cases h; exact ⟨by decide +kernel, by decide +kernel, by decide +kernel, by decide +kernel, by decide +kernel, by decide +kernel⟩
  | k + 5, h => simp [jCl] at h
theorem jfk_0 {k f : Nat} {r : vw_C} (h : jCl[k]? = some r) (hf : jfk k f = 0) : (r.2.1 f).2.2.2 = false := by
  unfold jfk at hf
  rw [h] at hf
  cases hb : (r.2.1 f).2.2.2 with
  | false => rfl
  | true => rw [if_pos (by simpa using hb)] at hf; cases hf
theorem jfk_1 {k f : Nat} {r : vw_C} (h : jCl[k]? = some r) (hf : jfk k f = 1) : (r.2.1 f).2.2.2 = true := by
  unfold jfk at hf
  rw [h] at hf
  cases hb : (r.2.1 f).2.2.2 with
  | true => rfl
  | false => rw [if_neg (by simp [hb])] at hf; cases hf
theorem jfld_ok {i x k f : Nat} (h : jfld i x = some (k, f)) : ∃ r : vw_C, jCl[k]? = some r ∧ f < r.2.2 ∧ Cond.fieldLink (jcn (jo i)) x (r.2.1 f).1 (r.2.1 f).2.1 (r.2.1 f).2.2.1 ∈ jGW ∧ ∀ w ∈ u_ws r.1 r.2.1 r.2.2, w ∈ jGW := by
  obtain ⟨a, h1, h2⟩ := jfind (f := fun a => a == (jo i, x)) (show (jFL.find? (fun q => q.1 == (jo i, x))).map (fun q => q.2) = some (k, f) from h)
  have ha : a = (jo i, x) := by simpa using h2
  subst ha
  have hn := jF_n _ h1
  have hw := jF_all _ (List.mem_map.mpr ⟨_, h1, rfl⟩)
  dsimp only at hn
  cases hr : jCl[k]? with
  | none => rw [hr] at hn; exact absurd hn (Nat.not_lt_zero _)
  | some r =>
    rw [hr] at hn
    refine ⟨r, rfl, hn, ?_, jlay r (List.mem_of_getElem? hr)⟩
    have e : jFw ((jo i, x), k, f) = Cond.fieldLink (jcn (jo i)) x (r.2.1 f).1 (r.2.1 f).2.1 (r.2.1 f).2.2.1 := by
      simp only [jFw, hr]
    rw [e] at hw
    exact hw
theorem jthr_ok {i pc : Nat} {q : Nat × Nat × Nat × String × String} (h : jthr i pc = some q) : ((i, pc), q) ∈ jXL := by
  obtain ⟨a, h1, h2⟩ := jfind (f := fun a => a == (i, pc)) (show (jXL.find? (fun q => q.1 == (i, pc))).map (fun q => q.2) = some q from h)
  have ha : a = (i, pc) := by simpa using h2
  subst ha
  exact h1
theorem jcal_ok {i x : Nat} {q : Nat × Nat} (h : jcal i x = some q) : ((jo i, x), q) ∈ jCL := by
  obtain ⟨a, h1, h2⟩ := jfind (f := fun a => a == (jo i, x)) (show (jCL.find? (fun q => q.1 == (jo i, x))).map (fun q => q.2) = some q from h)
  have ha : a = (jo i, x) := by simpa using h2
  subst ha
  exact h1
theorem jnew_ok {i x k : Nat} (h : jnew i x = some k) : ((jo i, x), k) ∈ jNL := by
  obtain ⟨a, h1, h2⟩ := jfind (f := fun a => a == (jo i, x)) (show (jNL.find? (fun q => q.1 == (jo i, x))).map (fun q => q.2) = some k from h)
  have ha : a = (jo i, x) := by simpa using h2
  subst ha
  exact h1
theorem jN_all : ∀ q ∈ jNL, jgood (Cond.classLink (jcn q.1.1) q.1.2 (jcn q.2)) = true ∧ jgood (Cond.instantiable (jcn q.2) (jdef q.2).length) = true ∧ jgood (Cond.initialized (jcn q.2)) = true ∧ q.2 < 5 := by decide +kernel
theorem jI_all : ∀ q ∈ jIL, jgood (Cond.methodLink (jcn q.1) q.2 objectInit) = true := by decide +kernel
theorem jI_o : jgood (Cond.instanceMethod objectInit) = true ∧ jgood (Cond.code objectInit ⟨#[0xb1]⟩ 1 none) = true := by decide +kernel
theorem jlong_ok {i x : Nat} {v : Int64} (h : jlong i x = some v) : Cond.constantLong (jcn (jo i)) x v ∈ jGW := by
  unfold jlong at h
  split at h
  · rename_i hq
    cases h
    rw [hq.1, hq.2]
    exact jgood_spec (by decide +kernel)
  · split at h
    · rename_i hq
      cases h
      rw [hq.1, hq.2]
      exact jgood_spec (by decide +kernel)
    · cases h
theorem jarr_ok : jgood (Cond.arrayClass .int) = true ∧ jgood (Cond.arrayClass .boolean) = true ∧ jgood (Cond.arrayClass .long) = true := by decide +kernel

/-- the arrays and numbers of the start -/
def A0 (f : Nat → Int32) : Nat → Nat → Int32 := fun a => if a = 15 then jfil (fun _ => 0) (-1) 320 else if a = 18 then jfil (fun _ => 0) (-1) 320 else if a = 38 then f else fun _ => 0
def V0 : Nat → Int32 := fun v => if v = 1 then 30 else if v = 8 then 30 else 0
theorem Rel.init {f : Nat → Int32} (hf : ∀ j, j < 320 → f j = -1) : Rel (A0 f) V0 0 0 0 0 := by
  refine Rel.mk (by omega) (by omega) (by omega) (by omega) rfl rfl rfl rfl rfl rfl rfl rfl rfl rfl (fun c hc => absurd hc (by omega)) (fun c hc => absurd hc (by omega)) (fun c hc => absurd hc (by omega)) (fun c hc => absurd hc (by omega)) (fun c o hc ho => ?_) (fun c o hc ho e => absurd rfl e) (fun c o hc ho => ?_) (fun p c hp hc => ?_) (fun p c hp hc => Or.inl rfl) (fun c hc => rfl) (fun c hc => rfl) (fun k hk => absurd hk (by omega)) (fun k h1 h2 => ⟨rfl, rfl⟩) (fun p c hp hc => ?_) (fun k hk => absurd hk (by omega)) (fun p c x hp hc hx => absurd hx (by omega)) (fun p c hp hc => rfl) (fun q hq => ?_) (fun s hs => absurd hs (by omega))
  · exact ⟨fun z => absurd z (jbit_0 (by omega)), fun z => absurd rfl z⟩
  · exact ⟨fun z => absurd z (jbit_0 (by omega)), fun ⟨a, _, z, _⟩ => absurd rfl z⟩
  · exact ⟨fun z => absurd z (jbit_0 (by omega)), fun z => absurd (show (0 : Int32) = 1 from z) (by decide)⟩
  · exact if_pos (by omega)
  · exact (show jfil (fun _ => 0) (-1) 320 q = -1 from if_pos hq).trans (hf q hq).symm

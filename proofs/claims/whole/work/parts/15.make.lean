theorem jXcast : ∀ q ∈ jXL, q.2.2.2.2.1 ∈ jCast := by decide +kernel
set_option maxHeartbeats 1000000 in
theorem J_throw {l : Launch} {E : jEnv} {i pc : Nat} {q : Nat × Nat × Nat × String × String} {loc : List (Option Value)} {st : List Value} {h : List jC} {c s : Nat} {Q : jO → List jC → Prop}
    (hq : jthr i pc = some q) (h1 : jrest st = true) (h2 : 6 ≤ (jm i).frames) (h3 : 90 ≤ (jm i).locals) (h4 : c + 1 ≤ (jm i).cells) (h5 : s + 6 ≤ (jm i).slots) (hQ : Q (.inr q.2.2.2.1) h) : GO l E i pc loc st h c s Q := by
  intro p e S m args below meth cd C al0 h0 al H locs ls hE hH hS hl
  obtain ⟨hx, hb, hml, hrt, hown, hts, htab, hlk, hini, hB, hst⟩ := id C
  have mem := jthr_ok hq
  obtain ⟨o1, o2⟩ := jXo _ mem
  obtain ⟨c1, c2, c3, c4, c5⟩ := jXc _ mem
  obtain ⟨k1, k2, k3⟩ := jXk _ mem
  have ka := jXa _ mem
  have kg := jXg _ mem
  have kc := jXcast _ mem
  obtain ⟨ik, is, ic, X, text⟩ := q
  dsimp only at o1 o2 c1 c2 c3 c4 c5 k1 k2 k3 ka kg kc hQ
  rw [o1] at hown
  obtain ⟨sa, hsa⟩ := hB.2.2.2.1 (is, text) (List.mem_map.mpr ⟨_, mem, rfl⟩)
  have hd0 := jdec c1
  have hd3 := jdec c2
  have hd4 := jdec c3
  have hd6 := jdec c4
  have hd9 := jdec c5
  have hat : ∀ w ∈ vx_atS "TrainingRows" ic X jEx, w.before args S = true := by
    intro w hw
    rcases ka w hw with g | g
    · exact hts w g
    · rcases List.mem_append.mp g with g | g
      · obtain ⟨y, hy, rfl⟩ := List.mem_map.mp g
        exact va_Nw.use rfl (hB.2.2.2.2.2.2.1 y hy)
      · obtain ⟨y, hy, rfl⟩ := List.mem_map.mp g
        exact va_Nw.use rfl (hB.2.2.2.2.2.2.2.1 y hy)
  have hsum := jrest_s h1
  have key := vx_throwS (p := p) (l := l) (e := e) (R := jm i) (s := S) (m := m) (args := args) (below := below) (meth := meth) (c := cd) (H := H) (locs := locs) (cells := c) (slots := s) (cc := jb i) (pc := pc) (own := "TrainingRows") (cls := X) (text := text) (names := jEx) (ik := ik) (is := is) (ic := ic) (mc := (jm i).cells) (ms := (jm i).slots) (sa := sa) (A := jA E) (ls := ls) (rest := st.map (jt al)) (free := jA E) (Qc := fun _ _ _ _ => False) (XC := jXC E Q al0 h0)
    hx hb hst hown k3 jXf (hts _ (jgood_spec k1)) (hts _ (jgood_spec k2)) hsa hat kg hB.2.1 hB.2.2.1 hS (hl.1.trans hml.symm) hd0 hd3 hd4 hd6 hd9
    (fun x hx9 => by rw [htab, List.isEmpty_iff.mp o2] at hx9; cases hx9) (by simp [jEx]; omega) (by rw [jt_sum]; simp [jEx]; omega) h4 h5 hlk
    (fun t ha hz hk => ⟨al, h, kc, hQ, hE, ⟨hH.1.kept (fun j q hq => hk q.1 ((hH.1 j q hq).lt)), hH.2⟩, ⟨Nat.le_trans hS.1 hz, fun q g1 g2 => (hk q (Nat.lt_of_lt_of_le g1 hS.1)).trans (hS.2.1 q g1 g2)⟩⟩) hS.2.2 h4 h5
  intro T hT X9
  obtain ⟨t, a1, o, b1, b2, b3⟩ := key T hT X9
  refine ⟨t, a1, o, b1, b2, ?_⟩
  rcases b3 with ⟨b3, -⟩ | b3
  · exact b3.elim
  · exact Or.inr b3
theorem jW_congr {cA : Nat → ClassId} {al al' : Nat → Nat} {n : Nat} (ha : ∀ k, k < n → al' k = al k) (h9 : al' 9999 = al 9999) : ∀ (h : List jC) (j : Nat), j + h.length ≤ n → jwfh n h = true → jW cA al' j h = jW cA al j h
  | [], _, _, _ => rfl
  | c :: r, j, hl, hw => by
    simp only [List.length_cons] at hl
    simp only [jwfh, List.all_cons, Bool.and_eq_true] at hw
    simp only [jW]
    rw [ha j (by omega), jW_congr ha h9 r (j + 1) (by omega) hw.2]
    congr 2
    cases c with
    | inl a => obtain ⟨t, n, f⟩ := a; cases f <;> rfl
    | inr o =>
      obtain ⟨k, fs⟩ := o
      simp only [jE]
      congr 2
      exact List.map_congr_left fun v hv => jwfv_eq (List.all_eq_true.mp hw.1 v hv) ha h9
theorem jdef_ok : ∀ k, k < 5 → (∀ v ∈ jdef k, v = .int 0 ∨ v = .null) ∧ (∀ j, j < (jdef k).length → defaultValue (jY k j) = (jdef k).getD j .null) := by decide +kernel
theorem jdef_map {k : Nat} (hk : k < 5) (al : Nat → Nat) : (jdef k).map (jt al) = jdef k := by
  conv => rhs; rw [← List.map_id (jdef k)]
  refine List.map_congr_left fun v hv => ?_
  rcases (jdef_ok k hk).1 v hv with rfl | rfl <;> rfl
theorem jdef_len {k : Nat} {r : vw_C} (h : jCl[k]? = some r) : (jdef k).length = r.2.2 := by
  simp [jdef, h]
/-- behind a making: the addresses with the new one -/
def jup (al : Nat → Nat) (n q : Nat) : Nat → Nat := fun k => if k = n then q else al k
theorem jup_lt {al : Nat → Nat} {n q k : Nat} (h : k < n) : jup al n q k = al k := if_neg (by omega)
theorem jup_self {al : Nat → Nat} {n q : Nat} : jup al n q n = q := if_pos rfl
theorem jExt_new {al0 al : Nat → Nat} {h0 h : List jC} {q : Nat} {c : jC} (x : jExt al0 h0 al h) : jExt al0 h0 (jup al h.length q) (h ++ [c]) := by
  obtain ⟨x1, x2, x3⟩ := x
  refine ⟨by simp; omega, fun k hk => by rw [jup_lt (by omega)]; exact x2 k hk, fun e => ?_⟩
  simp at e; omega
set_option maxHeartbeats 1000000 in
theorem J_new {l : Launch} {E : jEnv} {i pc x k : Nat} {loc : List (Option Value)} {st : List Value} {h : List jC} {c s : Nat} {K : jK} {Q : jO → List jC → Prop}
    (hc : jcode i pc = some (.new x, 3)) (hq : jnew i x = some k) (h1 : jwf h.length loc st = true) (h2 : jwfh h.length h = true) (h3 : h.length < 9999) (h4 : c + 1 ≤ (jm i).cells) (h5 : s + (jdef k).length ≤ (jm i).slots)
    (hk : K (pc + 3) loc (.ref h.length :: st) (h ++ [.inr (k, jdef k)]) (c + 1) (s + (jdef k).length)) (hK : ∀ nx loc st h c s, K nx loc st h c s → GO l E i nx loc st h c s Q) : GO l E i pc loc st h c s Q := by
  intro p e S m args below meth cd C al0 h0 al H locs ls hE hH hS hl
  obtain ⟨hx, hb, hml, hrt, hown, hts, htab, hlk, hini, hB, hst⟩ := id C
  have hd := jdec hc
  obtain ⟨g1, g2, g3, g4⟩ := jN_all _ (jnew_ok hq)
  dsimp only at g1 g2 g3 g4
  have hcl : jCl[k]? = some (jCl[k]'(by simpa using g4)) := List.getElem?_eq_getElem _
  generalize jCl[k]'(by simpa using g4) = w at hcl
  obtain ⟨f1, f2, f3, f4, f5, f6⟩ := jcl_facts hcl
  have hlen := jdef_len hcl
  rw [hlen] at g2 h5 hk
  rw [← f6] at g1 g2 g3
  have hA : ∀ q, S.heap.size ≤ q → jA E q := fun q hq => Nat.le_trans hB.2.2.2.2.2.2.2.2.2.1 hq
  refine va_new (D := jD E) (ci := k) (fs := jdef k) (C := w.1) (T := w.2.1) (N := w.2.2) hx hb hts (jlay w (List.mem_of_getElem? hcl)) (jY k) f1 hown (hts _ (jgood_spec g1)) (hts _ (jgood_spec g2)) (hts _ (jgood_spec g3)) hB.1 hH.1 hH.2.1 hS hA hcl (fun j hj => (jdef_ok k g4).2 j (by rw [hlen]; exact hj)) h4 h5 hd (fun q H1 hP1 hD1 hS1 => ?_)
  have ha9 : ∀ j, j < h.length → jup al h.length q j = al j := fun j hj => jup_lt hj
  have h99 : jup al h.length q 9999 = al 9999 := if_neg (by omega)
  obtain ⟨b1, b2⟩ := jwf_eq h1 ha9 h99
  have e1 : jW E.2.2.1 (jup al h.length q) 0 (h ++ [.inr (k, jdef k)]) = jW E.2.2.1 al 0 h ++ [(q, .inr (k, jdef k))] := by
    rw [jW_app, jW_congr ha9 h99 h 0 (by omega) h2, Nat.zero_add, jup_self]
    simp only [jE, jdef_map g4]
  have R := hK _ _ _ _ _ _ hk p e S m args below meth cd C al0 h0 (jup al h.length q) H1 locs ls (jExt_new hE) ⟨by rw [e1]; exact hP1, by rw [e1]; exact hD1, h99.trans hH.2.2⟩ hS1 (by rw [b1]; exact hl)
  have e2 : (Value.ref h.length :: st).map (jt (jup al h.length q)) = .ref q :: st.map (jt al) := by
    rw [List.map_cons, b2]
    show Value.ref (jup al h.length q h.length) :: _ = _
    rw [jup_self]
  rw [e2] at R
  exact R
theorem jty_of {E : jEnv} {S : State} {t : Nat} {ty : FieldType} {cA' : ClassId} {tys : List (ClassId × FieldType)} (hK : va_K (jD E) jCl tys S) (hk : tys[t]? = some (E.2.2.1 t, ty)) (hK2 : va_K (jD E) jCl (tys ++ [(cA', ty)]) S) (hty : ty = .int ∨ ty = .boolean ∨ ty = .long) : cA' = E.2.2.1 t := by
  have h1 := (hK.2 t _ hk).2
  have h2 := (hK2.2 tys.length (cA', ty) (by simp)).2
  dsimp only at h1 h2
  rcases hty with rfl | rfl | rfl
  · exact Option.some.inj ((show S.vm.findClass _ = some cA' from h2).symm.trans h1)
  · exact Option.some.inj ((show S.vm.findClass _ = some cA' from h2).symm.trans h1)
  · exact Option.some.inj ((show S.vm.findClass _ = some cA' from h2).symm.trans h1)
def jsum (cc : (Nat → Int32) ⊕ (Nat → Int64)) : (Nat → Int32) ⊕ (Nat → Int64) ⊕ (Nat → UInt32) ⊕ (Nat → UInt64) ⊕ (Nat → Option Nat) := match cc with
  | .inl f => .inl f
  | .inr f => .inr (.inl f)
set_option maxHeartbeats 1000000 in
theorem J_newa {l : Launch} {E : jEnv} {i pc t : Nat} {ty : FieldType} {at9 : ArrayType} {n : Int32} {loc : List (Option Value)} {st : List Value} {h : List jC} {c s : Nat} {K : jK} {Q : jO → List jC → Prop} {cc : (Nat → Int32) ⊕ (Nat → Int64)}
    (hc : jcode i pc = some (.newarray at9, 2)) (hty : newarray.typeOf at9 = ty) (ht : (jtys E)[t]? = some (E.2.2.1 t, ty)) (ht3 : ty = .int ∨ ty = .boolean ∨ ty = .long) (hw : Cond.arrayClass ty ∈ jGW) (hcell : ∀ cA : ClassId, vp_cell cA (n.toNatClampNeg, jsum cc) = arrV cA n.toNatClampNeg (fun _ => defaultValue ty))
    (h1 : jwf h.length loc st = true) (h2 : jwfh h.length h = true) (h3 : h.length < 9999) (hn : ¬ n < 0) (hn2 : n.toNatClampNeg ≤ 100000) (h4 : c + 1 ≤ (jm i).cells) (h5 : s + n.toNatClampNeg ≤ (jm i).slots)
    (hk : K (pc + 2) loc (.ref h.length :: st) (h ++ [.inl (t, n.toNatClampNeg, cc)]) (c + 1) (s + n.toNatClampNeg)) (hK : ∀ nx loc st h c s, K nx loc st h c s → GO l E i nx loc st h c s Q) : GO l E i pc loc (.int n :: st) h c s Q := by
  intro p e S m args below meth cd C al0 h0 al H locs ls hE hH hS hl
  obtain ⟨hx, hb, hml, hrt, hown, hts, htab, hlk, hini, hB, hst⟩ := id C
  have hd := jdec hc
  have hA : ∀ q, S.heap.size ≤ q → jA E q := fun q hq => Nat.le_trans hB.2.2.2.2.2.2.2.2.2.1 hq
  have hcb : componentBytes ty ≤ 8 := by rcases ht3 with rfl | rfl | rfl <;> decide
  refine va_newa (D := jD E) (atype := at9) (ty := ty) (N' := n.toNatClampNeg) (a0 := (n.toNatClampNeg, jsum cc)) hx hb (by rw [hty]; exact hts _ hw) hty hB.1 hH.1 hH.2.1 hS hA hcell hn rfl (by have := Nat.mul_le_mul hn2 hcb; omega) h4 h5 hd (fun q cA' H1 hK1 hP1 hD1 hS1 => ?_)
  have hca := jty_of hB.1 ht hK1 ht3
  subst hca
  have ha9 : ∀ j, j < h.length → jup al h.length q j = al j := fun j hj => jup_lt hj
  have h99 : jup al h.length q 9999 = al 9999 := if_neg (by omega)
  obtain ⟨b1, b2⟩ := jwf_eq h1 ha9 h99
  have e1 : jW E.2.2.1 (jup al h.length q) 0 (h ++ [.inl (t, n.toNatClampNeg, cc)]) = jW E.2.2.1 al 0 h ++ [(q, .inl (E.2.2.1 t, n.toNatClampNeg, jsum cc))] := by
    rw [jW_app, jW_congr ha9 h99 h 0 (by omega) h2, Nat.zero_add, jup_self]
    cases cc <;> rfl
  have R := hK _ _ _ _ _ _ hk p e S m args below meth cd C al0 h0 (jup al h.length q) H1 locs ls (jExt_new hE) ⟨by rw [e1]; exact hP1, by rw [e1]; exact hD1, h99.trans hH.2.2⟩ hS1 (by rw [b1]; exact hl)
  have e2 : (Value.ref h.length :: st).map (jt (jup al h.length q)) = .ref q :: st.map (jt al) := by
    rw [List.map_cons, b2]
    show Value.ref (jup al h.length q h.length) :: _ = _
    rw [jup_self]
  rw [e2] at R
  exact R
theorem J_obj {l : Launch} {E : jEnv} {i pc x a : Nat} {loc : List (Option Value)} {st : List Value} {h : List jC} {c s : Nat} {K : jK} {Q : jO → List jC → Prop}
    (hc : jcode i pc = some (.invokespecial x, 3)) (ho : jobj i x = true) (hr : jrest st = true) (h1 : 1 ≤ (jm i).frames) (h2 : 20 ≤ (jm i).locals) (hk : K (pc + 3) loc st h c s) (hK : ∀ nx loc st h c s, K nx loc st h c s → GO l E i nx loc st h c s Q) : GO l E i pc loc (.ref a :: st) h c s Q := by
  intro p e S m args below meth cd C al0 h0 al H locs ls hE hH hS hl
  obtain ⟨hx, hb, hml, hrt, hown, hts, htab, hlk, hini, hB, hst⟩ := id C
  have hd := jdec hc
  have hm : (jo i, x) ∈ jIL := by simpa [jobj] using ho
  refine W.objInit (g := F0 m pc ls (.ref (al a) :: st.map (jt al))) hx hb hown (hts _ (jgood_spec (jI_all _ hm))) (hts _ (jgood_spec jI_o.1)) (hts _ (jgood_spec jI_o.2)) rfl (hl.1.trans hml.symm) (a := al a) (rest := st.map (jt al)) rfl hd h1 ?_ ?_
  · rw [jt_sum]
    have := jrest_s hr
    show 2 * 0 + _ + 12 ≤ _
    omega
  · exact hK _ _ _ _ _ _ hk p e S m args below meth cd C al0 h0 al H locs ls hE hH hS hl

section JS
variable {p : Program} {l : Launch} {e : Env} {R : Room} {s : State} {m : MethodId} {args : Array Value} {below : List Frame} {meth : Method} {c : Code} {H : Heap} {locs : List Loc} {cells slots : Nat}
theorem jret {E : jEnv} {Q : jO → List jC → Prop} {i : Nat} {al0 : Nat → Nat} {h0 : List jC} {g : JFrame} (k : W p l e R s m args below meth c H locs cells slots (MQ below (jQc E Q al0 h0) args s (jrc i) (jrs i) (jA E)) g) : W p l e R s m args below meth c H locs cells slots (jMQ E Q i al0 h0 below args s) g := by
  intro T hT X
  obtain ⟨t, a1, o, b1, b2, b3, b4⟩ := k T hT X
  exact ⟨t, a1, o, b1, b2, Or.inl ⟨b3, b4⟩⟩
end JS
set_option maxHeartbeats 4000000 in
theorem J_simple {l : Launch} {E : jEnv} {i pc : Nat} {raw : Instr} {len : Nat} {loc : List (Option Value)} {st : List Value} {h : List jC} {c s : Nat} {K : jK} {Q : jO → List jC → Prop}
    (hc : jcode i pc = some (raw, len)) (hj : jop l E i pc (jnorm pc raw) (pc + len) loc st h c s K Q) (hK : ∀ nx loc st h c s, K nx loc st h c s → GO l E i nx loc st h c s Q)
    (hn : match raw with | .invokevirtual _ | .invokestatic _ | .invokespecial _ | .new _ | .newarray _ => False | _ => True) : GO l E i pc loc st h c s Q := by
  intro p e S m args below meth cd C al0 h0 al H locs ls hE hH hS hl
  have go : ∀ {nx loc st h c s}, K nx loc st h c s → ∀ {H locs ls}, jExt al0 h0 al h → jHeap E al h H → va_S (jA E) S.heap H locs → lv_has ls (jl i) (jlv al loc) → W p l e (jm i) S m args below meth cd H locs c s (jMQ E Q i al0 h0 below args S) (F0 m nx ls (st.map (jt al))) :=
    fun {nx loc st h c s} hk {H locs ls} a1 a2 a3 a4 => hK nx loc st h c s hk p e S m args below meth cd C al0 h0 al H locs ls a1 a2 a3 a4
  obtain ⟨hx, hb, hml, hr, hown, hts, htab, hlk, hini, hB, hst⟩ := id C
  have hd := jdec hc
  have ck := jchk_of hc
  obtain ⟨hP, hD, hb9⟩ := id hH
  have hKs := hB.1
  cases raw with
  | iload_n n =>
    simp only [jchk, beq_iff_eq] at ck; subst ck
    obtain ⟨x, hg, hj⟩ := jgi_s hj
    exact lv_iload_n hx hb hd rfl (jlv_at hl hg) (go hj hE hH hS hl)
  | iload n =>
    simp only [jchk, beq_iff_eq] at ck; subst ck
    obtain ⟨x, hg, hj⟩ := jgi_s hj
    exact lv_iload hx hb hd (jlv_at hl hg) (go hj hE hH hS hl)
  | lload_n n =>
    simp only [jchk, beq_iff_eq] at ck; subst ck
    obtain ⟨x, hg, hj⟩ := jgl_s hj
    exact lv_lload_n hx hb hd rfl (jlv_at hl hg) (go hj hE hH hS hl)
  | lload n =>
    simp only [jchk, beq_iff_eq] at ck; subst ck
    obtain ⟨x, hg, hj⟩ := jgl_s hj
    exact lv_lload hx hb hd (jlv_at hl hg) (go hj hE hH hS hl)
  | aload_n n =>
    simp only [jchk, beq_iff_eq] at ck; subst ck
    obtain ⟨x, hg, hj⟩ := jgr_s hj
    exact lv_aload_n hx hb hd rfl (jlv_at hl hg) (go hj hE hH hS hl)
  | aload n =>
    simp only [jchk, beq_iff_eq] at ck; subst ck
    obtain ⟨x, hg, hj⟩ := jgr_s hj
    exact lv_aload hx hb hd (jlv_at hl hg) (go hj hE hH hS hl)
  | istore_n n =>
    simp only [jchk, Bool.and_eq_true, beq_iff_eq, decide_eq_true_eq] at ck; obtain ⟨ck, ck2⟩ := ck; subst ck
    obtain ⟨x, r, rfl, hf, hj⟩ := j1i_s hj
    exact lv_istore_n hx hb hd rfl hl ck2 rfl (fun ls' hl' => go hj hE hH hS (jlv_put (v := .int x) hf hl'))
  | istore n =>
    simp only [jchk, Bool.and_eq_true, beq_iff_eq, decide_eq_true_eq] at ck; obtain ⟨ck, ck2⟩ := ck; subst ck
    obtain ⟨x, r, rfl, hf, hj⟩ := j1i_s hj
    exact lv_istore hx hb hd hl ck2 rfl (fun ls' hl' => go hj hE hH hS (jlv_put (v := .int x) hf hl'))
  | astore_n n =>
    simp only [jchk, Bool.and_eq_true, beq_iff_eq, decide_eq_true_eq] at ck; obtain ⟨ck, ck2⟩ := ck; subst ck
    obtain ⟨x, r, rfl, hf, hj⟩ := j1r_s hj
    exact lv_astore_n hx hb hd rfl hl ck2 rfl (fun ls' hl' => go hj hE hH hS (jlv_put (v := .ref x) hf hl'))
  | astore n =>
    simp only [jchk, Bool.and_eq_true, beq_iff_eq, decide_eq_true_eq] at ck; obtain ⟨ck, ck2⟩ := ck; subst ck
    obtain ⟨x, r, rfl, hf, hj⟩ := j1r_s hj
    exact lv_astore hx hb hd hl ck2 rfl (fun ls' hl' => go hj hE hH hS (jlv_put (v := .ref x) hf hl'))
  | iinc k n =>
    simp only [jchk, Bool.and_eq_true, beq_iff_eq, decide_eq_true_eq] at ck; obtain ⟨ck, ck2⟩ := ck; subst ck
    obtain ⟨x, hg, hf, hj⟩ := jgi_s hj
    obtain ⟨q, hq⟩ := List.getElem?_of_mem (jlv_mem (al := al) hg)
    exact lv_iinc hx hb hd hl hq rfl ck2 rfl (fun ls' hl' => go hj hE hH hS (jlv_put (v := .int (x + Int32.ofInt n)) hf hl'))
  | iconst n =>
    simp only [jchk, beq_iff_eq] at ck; subst ck
    exact lv_iconst hx hb hd rfl (go hj hE hH hS hl)
  | bipush n =>
    simp only [jchk, beq_iff_eq] at ck; subst ck
    exact lv_bipush hx hb hd rfl (go hj hE hH hS hl)
  | sipush n =>
    simp only [jchk, beq_iff_eq] at ck; subst ck
    exact lv_sipush hx hb hd rfl (go hj hE hH hS hl)
  | lconst n =>
    simp only [jchk, beq_iff_eq] at ck; subst ck
    exact lv_lconst hx hb hd rfl (go hj hE hH hS hl)
  | ldc2_w n =>
    simp only [jchk, beq_iff_eq] at ck; subst ck
    obtain ⟨v, hv, hj⟩ := jso_s hj
    exact lv_ldc2 hx hb hown (hts _ (jlong_ok hv)) hd (go hj hE hH hS hl)
  | iadd =>
    simp only [jchk, beq_iff_eq] at ck; subst ck
    obtain ⟨x, y, r, rfl, hj⟩ := j2i_s hj
    exact lv_iadd hx hb hd (go hj hE hH hS hl)
  | isub =>
    simp only [jchk, beq_iff_eq] at ck; subst ck
    obtain ⟨x, y, r, rfl, hj⟩ := j2i_s hj
    exact lv_isub hx hb hd (go hj hE hH hS hl)
  | imul =>
    simp only [jchk, beq_iff_eq] at ck; subst ck
    obtain ⟨x, y, r, rfl, hj⟩ := j2i_s hj
    exact lv_imul hx hb hd (go hj hE hH hS hl)
  | iand =>
    simp only [jchk, beq_iff_eq] at ck; subst ck
    obtain ⟨x, y, r, rfl, hj⟩ := j2i_s hj
    exact lv_iand hx hb hd (go hj hE hH hS hl)
  | ior =>
    simp only [jchk, beq_iff_eq] at ck; subst ck
    obtain ⟨x, y, r, rfl, hj⟩ := j2i_s hj
    exact lv_ior hx hb hd (go hj hE hH hS hl)
  | ixor =>
    simp only [jchk, beq_iff_eq] at ck; subst ck
    obtain ⟨x, y, r, rfl, hj⟩ := j2i_s hj
    exact lv_ixor hx hb hd (go hj hE hH hS hl)
  | ishl =>
    simp only [jchk, beq_iff_eq] at ck; subst ck
    obtain ⟨x, y, r, rfl, hj⟩ := j2i_s hj
    exact lv_ishl hx hb hd (go hj hE hH hS hl)
  | ishr =>
    simp only [jchk, beq_iff_eq] at ck; subst ck
    obtain ⟨x, y, r, rfl, hj⟩ := j2i_s hj
    exact lv_ishr hx hb hd (go hj hE hH hS hl)
  | idiv =>
    simp only [jchk, beq_iff_eq] at ck; subst ck
    obtain ⟨x, y, r, rfl, hz, hj⟩ := j2i_s hj
    exact lv_idiv hx hb hd hz (go hj hE hH hS hl)
  | irem =>
    simp only [jchk, beq_iff_eq] at ck; subst ck
    obtain ⟨x, y, r, rfl, hz, hj⟩ := j2i_s hj
    exact lv_irem hx hb hd hz (go hj hE hH hS hl)
  | i2l =>
    simp only [jchk, beq_iff_eq] at ck; subst ck
    obtain ⟨x, r, rfl, hj⟩ := j1i_s hj
    exact lv_i2l hx hb hd rfl (go hj hE hH hS hl)
  | l2i =>
    simp only [jchk, beq_iff_eq] at ck; subst ck
    obtain ⟨x, r, rfl, hj⟩ := j1l_s hj
    exact lv_l2i hx hb hd rfl (go hj hE hH hS hl)
  | land =>
    simp only [jchk, beq_iff_eq] at ck; subst ck
    obtain ⟨x, y, r, rfl, hj⟩ := j2l_s hj
    exact lv_land hx hb hd (go hj hE hH hS hl)
  | lor =>
    simp only [jchk, beq_iff_eq] at ck; subst ck
    obtain ⟨x, y, r, rfl, hj⟩ := j2l_s hj
    exact lv_lor hx hb hd (go hj hE hH hS hl)
  | lshl =>
    simp only [jchk, beq_iff_eq] at ck; subst ck
    obtain ⟨x, y, r, rfl, hj⟩ := jil_s hj
    exact lv_lshl hx hb hd rfl (go hj hE hH hS hl)
  | lshr =>
    simp only [jchk, beq_iff_eq] at ck; subst ck
    obtain ⟨x, y, r, rfl, hj⟩ := jil_s hj
    exact lv_lshr hx hb hd rfl (go hj hE hH hS hl)
  | lushr =>
    simp only [jchk, beq_iff_eq] at ck; subst ck
    obtain ⟨x, y, r, rfl, hj⟩ := jil_s hj
    exact lv_lushr hx hb hd rfl (go hj hE hH hS hl)
  | lcmp =>
    simp only [jchk, beq_iff_eq] at ck; subst ck
    obtain ⟨x, y, r, rfl, hj⟩ := j2l_s hj
    exact W.lcmp hx hb hd (go hj hE hH hS hl)
  | dup =>
    simp only [jchk, beq_iff_eq] at ck; subst ck
    obtain ⟨a, r, rfl, hj⟩ := j1r_s hj
    exact lv_dup hx hb hd rfl (go hj hE hH hS hl)
  | dup2 =>
    simp only [jchk, beq_iff_eq] at ck; subst ck
    obtain ⟨a, j, r, rfl, hj⟩ := jia_s hj
    exact lv_dup2_11 hx hb hd rfl rfl (go hj hE hH hS hl)
  | goto o =>
    simp only [jchk, Bool.and_eq_true, beq_iff_eq, decide_eq_true_eq] at ck; obtain ⟨ck, ck2⟩ := ck; subst ck
    exact lv_goto (tgt := ((pc : Int) + o).toNat) hx hb hd (Int.toNat_of_nonneg ck2).symm (go hj hE hH hS hl)
  | ifCond cn o =>
    simp only [jchk, Bool.and_eq_true, beq_iff_eq, decide_eq_true_eq] at ck; obtain ⟨ck, ck2⟩ := ck; subst ck
    obtain ⟨x, r, rfl, hj1, hj2⟩ := j1i_s hj
    have ht : (pc : Int) + o = ((((pc : Int) + o).toNat : Nat) : Int) := (Int.toNat_of_nonneg ck2).symm
    cases cn with
    | eq => exact lv_if_eq (tgt := ((pc : Int) + o).toNat) hx hb hd ht (fun q => go (hj1 q) hE hH hS hl) (fun q => go (hj2 q) hE hH hS hl)
    | ne => exact lv_if_ne (tgt := ((pc : Int) + o).toNat) hx hb hd ht (fun q => go (hj1 q) hE hH hS hl) (fun q => go (hj2 (fun z => z q)) hE hH hS hl)
    | lt => exact lv_if_lt (tgt := ((pc : Int) + o).toNat) hx hb hd ht (fun q => go (hj1 q) hE hH hS hl) (fun q => go (hj2 q) hE hH hS hl)
    | ge => exact lv_if_ge (tgt := ((pc : Int) + o).toNat) hx hb hd ht (fun q => go (hj1 q) hE hH hS hl) (fun q => go (hj2 q) hE hH hS hl)
    | gt => exact lv_if_gt (tgt := ((pc : Int) + o).toNat) hx hb hd ht (fun q => go (hj1 q) hE hH hS hl) (fun q => go (hj2 q) hE hH hS hl)
    | le => exact lv_if_le (tgt := ((pc : Int) + o).toNat) hx hb hd ht (fun q => go (hj1 q) hE hH hS hl) (fun q => go (hj2 q) hE hH hS hl)
  | if_icmp cn o =>
    simp only [jchk, Bool.and_eq_true, beq_iff_eq, decide_eq_true_eq] at ck; obtain ⟨ck, ck2⟩ := ck; subst ck
    obtain ⟨x, y, r, rfl, hj1, hj2⟩ := j2i_s hj
    have ht : (pc : Int) + o = ((((pc : Int) + o).toNat : Nat) : Int) := (Int.toNat_of_nonneg ck2).symm
    cases cn with
    | eq => exact lv_icmp_eq (tgt := ((pc : Int) + o).toNat) hx hb hd ht (fun q => go (hj1 q) hE hH hS hl) (fun q => go (hj2 q) hE hH hS hl)
    | ne => exact lv_icmp_ne (tgt := ((pc : Int) + o).toNat) hx hb hd ht (fun q => go (hj1 q) hE hH hS hl) (fun q => go (hj2 (fun z => z q)) hE hH hS hl)
    | lt => exact lv_icmp_lt (tgt := ((pc : Int) + o).toNat) hx hb hd ht (fun q => go (hj1 q) hE hH hS hl) (fun q => go (hj2 q) hE hH hS hl)
    | ge => exact lv_icmp_ge (tgt := ((pc : Int) + o).toNat) hx hb hd ht (fun q => go (hj1 q) hE hH hS hl) (fun q => go (hj2 q) hE hH hS hl)
    | gt => exact lv_icmp_gt (tgt := ((pc : Int) + o).toNat) hx hb hd ht (fun q => go (hj1 q) hE hH hS hl) (fun q => go (hj2 q) hE hH hS hl)
    | le => exact lv_icmp_le (tgt := ((pc : Int) + o).toNat) hx hb hd ht (fun q => go (hj1 q) hE hH hS hl) (fun q => go (hj2 q) hE hH hS hl)
  | tableswitch d lo hi offs =>
    simp only [jchk, Bool.and_eq_true, beq_iff_eq, decide_eq_true_eq, List.all_eq_true] at ck
    obtain ⟨⟨⟨⟨⟨ck1, ck2⟩, ck3⟩, ck4⟩, ck5⟩, ck6⟩ := ck
    obtain ⟨x, r, rfl, hj1, hj2⟩ := j1i_s hj
    by_cases hin : x.toInt < lo ∨ hi < x.toInt
    · exact lv_tableOut (tgt := ((pc : Int) + d).toNat) hx hb hd hin (Int.toNat_of_nonneg ck1).symm (go (hj2 hin) hE hH hS hl)
    · have h1 : ¬ x.toInt < lo := fun z => hin (Or.inl z)
      have h2 : ¬ hi < x.toInt := fun z => hin (Or.inr z)
      obtain ⟨k, hk⟩ : ∃ k : Nat, x.toInt = lo + k := ⟨(x.toInt - lo).toNat, by omega⟩
      have hks : k < offs.size := by omega
      have ho : offs[(x.toInt - lo).toNat]? = some offs[k] := by
        rw [show (x.toInt - lo).toNat = k by omega]
        exact Array.getElem?_eq_getElem hks
      have hmem : offs[k] ∈ offs.toList := by simp
      refine lv_tableIn (tgt := ((pc : Int) + offs[k]).toNat) hx hb hd h1 h2 ho (Int.toNat_of_nonneg (ck2 _ hmem)).symm (go (hj1 k _ ?_ hk) hE hH hS hl)
      simp [hks]
  | getfield x =>
    simp only [jchk, beq_iff_eq] at ck; subst ck
    obtain ⟨a, r, rfl, hj⟩ := j1r_s hj
    obtain ⟨⟨k, f⟩, hq, hj⟩ := jso_s hj
    obtain ⟨fs, ho, hj⟩ := job_s hj
    obtain ⟨v, hv, hj⟩ := jso_s hj
    obtain ⟨w, hw1, hw2, hw3, hw4⟩ := jfld_ok hq
    exact va_get (D := jD E) (ci := k) (v := jt al v) (C := w.1) (T := w.2.1) (N := w.2.2) hx hb hts hw4 hown hKs hP a (jW_at ho) hw1 f hw2 (hts _ hw3) (fun _ h9 => h9) (by rw [List.getElem?_map, hv]; rfl) hd (go hj hE hH hS hl)
  | putfield x =>
    simp only [jchk, beq_iff_eq] at ck; subst ck
    simp only [jnorm, jop] at hj
    split at hj
    · rename_i v a r
      obtain ⟨⟨k, f⟩, hq, hkf, hj⟩ := jso_s hj
      obtain ⟨fs, ho, hlt, hj⟩ := job_s hj
      obtain ⟨w, hw1, hw2, hw3, hw4⟩ := jfld_ok hq
      obtain ⟨c1, c2, c3, c4, c5, c6⟩ := jcl_facts hw1
      have hfin := jfk_0 hw1 hkf
      refine va_put (D := jD E) (ci := k) (v := .int v) (ty := .int) (C := w.1) (T := w.2.1) (N := w.2.2) hx hb hts hw4 (jY k) c1 c2 hown hKs hP hD hS a (jW_at ho) hw1 f hw2 (hts _ hw3) (fun _ h9 => h9) hfin (by rw [c1 f hw2, c3 f hw2 hfin]) rfl rfl (by simpa using hlt) hd (fun H1 locs1 hP1 hD1 hS1 => ?_)
      have e1 : jW E.2.2.1 al 0 (h.set a (.inr (k, fs.set f (.int v)))) = (jW E.2.2.1 al 0 h).set a (al a, .inr (k, (fs.map (jt al)).set f (.int v))) := by
        rw [jW_set, Nat.zero_add]
        simp only [jE, List.map_set]
        rfl
      exact go hj (jExt_set hE) ⟨by rw [e1]; exact hP1, by rw [e1]; exact hD1, hb9⟩ hS1 hl
    · rename_i v a r
      obtain ⟨⟨k, f⟩, hq, hkf, hin1, hin2, hj⟩ := jso_s hj
      obtain ⟨fs, ho, hlt, hj⟩ := job_s hj
      obtain ⟨w, hw1, hw2, hw3, hw4⟩ := jfld_ok hq
      obtain ⟨c1, c2, c3, c4, c5, c6⟩ := jcl_facts hw1
      have hfin := jfk_1 hw1 hkf
      have hrt := c4 f hw2 hfin
      have hnf : narrow (jY k f) (.ref (al v)) = .ref (al v) ∧ fits (jY k f) (.ref (al v)) = true := by
        cases hy : jY k f with
        | object n => exact ⟨rfl, rfl⟩
        | array t => exact ⟨rfl, rfl⟩
        | _ => rw [hy] at hrt; cases hrt
      refine va_putF (D := jD E) (ci := k) (v := .ref (al v)) (ty := jY k f) (C := w.1) (T := w.2.1) (N := w.2.2) hx hb hts hw4 (jY k) c1 c2 hown hKs hP hD hS a (jW_at ho) hw1 f hw2 (hts _ hw3) (fun _ h9 => h9) hfin (hini hin1) (by rw [c5 f hw2, hin2]) (c1 f hw2) hnf.1 hnf.2 (by simpa using hlt) hd (fun H1 locs1 hP1 hD1 hS1 => ?_)
      have e1 : jW E.2.2.1 al 0 (h.set a (.inr (k, fs.set f (.ref v)))) = (jW E.2.2.1 al 0 h).set a (al a, .inr (k, (fs.map (jt al)).set f (.ref (al v)))) := by
        rw [jW_set, Nat.zero_add]
        simp only [jE, List.map_set]
        rfl
      exact go hj (jExt_set hE) ⟨by rw [e1]; exact hP1, by rw [e1]; exact hD1, hb9⟩ hS1 hl
    · exact hj.elim
  | iaload =>
    simp only [jchk, beq_iff_eq] at ck; subst ck
    obtain ⟨a, j, r, rfl, hj⟩ := jia_s hj
    rcases hj with ⟨rfl, hv, hj⟩ | hj
    · show W p l e (jm i) S m args below meth cd H locs c s _ (F0 m pc ls (.int j :: .ref (al 9999) :: r.map (jt al)))
      rw [hb9]
      exact va_sld hx hb hB.2.2.2.2.2.2.2.2.1 (by have := hB.2.2.2.2.2.2.2.2.2; omega) (Nat.not_le.mpr hB.2.2.2.2.2.2.2.2.2.2) hS hv hd (go hj hE hH hS hl)
    · obtain ⟨n, f, ho, hv, hj⟩ := jar_s hj
      exact va_iald hx hb hKs hP a 0 (jW_at ho) rfl hv hd (go hj hE hH hS hl)
  | baload =>
    simp only [jchk, beq_iff_eq] at ck; subst ck
    obtain ⟨a, j, r, rfl, hj⟩ := jia_s hj
    obtain ⟨n, f, ho, hv, hj⟩ := jar_s hj
    exact va_zald hx hb hKs hP a 1 (jW_at ho) rfl hv hd (go hj hE hH hS hl)
  | laload =>
    simp only [jchk, beq_iff_eq] at ck; subst ck
    obtain ⟨a, j, r, rfl, hj⟩ := jia_s hj
    obtain ⟨n, f, ho, hv, hj⟩ := jal_s hj
    exact va_lald hx hb hKs hP a 2 (jW_at ho) rfl hv hd (go hj hE hH hS hl)
  | iastore =>
    simp only [jchk, beq_iff_eq] at ck; subst ck
    obtain ⟨a, j, x, r, rfl, hj⟩ := jiia_s hj
    obtain ⟨n, f, ho, hv, hj⟩ := jar_s hj
    refine va_iast hx hb hKs hP hD hS a 0 (jW_at ho) rfl hv hd (fun H1 locs1 hP1 hD1 hS1 => ?_)
    have e1 : jW E.2.2.1 al 0 (h.set a (.inl (0, n, .inl (upd f j.toNatClampNeg x)))) = (jW E.2.2.1 al 0 h).set a (al a, .inl (E.2.2.1 0, n, .inl (upd f j.toNatClampNeg x))) := by
      rw [jW_set, Nat.zero_add]; rfl
    exact go hj (jExt_set hE) ⟨by rw [e1]; exact hP1, by rw [e1]; exact hD1, hb9⟩ hS1 hl
  | bastore =>
    simp only [jchk, beq_iff_eq] at ck; subst ck
    obtain ⟨a, j, x, r, rfl, hj⟩ := jiia_s hj
    obtain ⟨n, f, ho, hv, hj⟩ := jar_s hj
    refine va_zast hx hb hKs hP hD hS a 1 (jW_at ho) rfl hv hd (fun H1 locs1 hP1 hD1 hS1 => ?_)
    have e1 : jW E.2.2.1 al 0 (h.set a (.inl (1, n, .inl (upd f j.toNatClampNeg (x &&& 1))))) = (jW E.2.2.1 al 0 h).set a (al a, .inl (E.2.2.1 1, n, .inl (upd f j.toNatClampNeg (vp_nar .boolean x)))) := by
      rw [jW_set, Nat.zero_add]; rfl
    exact go hj (jExt_set hE) ⟨by rw [e1]; exact hP1, by rw [e1]; exact hD1, hb9⟩ hS1 hl
  | lastore =>
    simp only [jchk, beq_iff_eq] at ck; subst ck
    obtain ⟨a, j, x, r, rfl, hj⟩ := jlia_s hj
    obtain ⟨n, f, ho, hv, hj⟩ := jal_s hj
    refine va_last hx hb hKs hP hD hS a 2 (jW_at ho) rfl hv hd (fun H1 locs1 hP1 hD1 hS1 => ?_)
    have e1 : jW E.2.2.1 al 0 (h.set a (.inl (2, n, .inr (vp_updL f j.toNatClampNeg x)))) = (jW E.2.2.1 al 0 h).set a (al a, .inl (E.2.2.1 2, n, .inr (.inl (vp_updL f j.toNatClampNeg x)))) := by
      rw [jW_set, Nat.zero_add]; rfl
    exact go hj (jExt_set hE) ⟨by rw [e1]; exact hP1, by rw [e1]; exact hD1, hb9⟩ hS1 hl
  | arraylength =>
    simp only [jchk, beq_iff_eq] at ck; subst ck
    obtain ⟨a, r, rfl, hj⟩ := j1r_s hj
    rcases hj with ⟨h9, hj1⟩ | hj
    · subst h9
      show W p l e (jm i) S m args below meth cd H locs c s _ (F0 m pc ls (.ref (al 9999) :: r.map (jt al)))
      rw [hb9]
      exact va_slen hx hb hB.2.2.2.2.2.2.2.2.1 (by have := hB.2.2.2.2.2.2.2.2.2; omega) (Nat.not_le.mpr hB.2.2.2.2.2.2.2.2.2.2) hS hd (go hj1 hE hH hS hl)
    · obtain ⟨n, f, ho, hj⟩ := jar_s hj
      exact va_alen hx hb hKs hP a 0 (jW_at ho) (ty := .int) rfl rfl hd (go hj hE hH hS hl)
  | ireturn =>
    simp only [jchk, Bool.and_eq_true, Bool.or_eq_true, beq_iff_eq] at ck; obtain ⟨ck, ck2⟩ := ck; subst ck
    simp only [jnorm, jop] at hj
    split at hj
    · rename_i v
      obtain ⟨hv, h1, h2, hQ⟩ := hj
      refine W.widen h1 h2 (jret ?_)
      have hq : ∀ t : State, t.heap = H → S.WarmedH t.vm → jQc E Q al0 h0 args S (.returned (some (.int v))) t := fun t ht hW => ⟨some (.int v), al, h, rfl, hQ, hE, by rw [ht]; exact hH, hS.F ht⟩
      rcases ck2 with ck2 | ck2
      · exact W.iret hx hb (by rw [hr, ck2]) hq hS.2.2 hd hlk
      · refine W.zret (ty := .boolean) hx hb (by rw [hr, ck2]) ?_ hq hS.2.2 hd hlk
        show Value.int (v &&& 1) = .int v
        rw [hv ck2]
    · exact hj.elim
  | return_ =>
    simp only [jchk, Bool.and_eq_true, beq_iff_eq, Option.isNone_iff_eq_none] at ck; obtain ⟨ck, ck2⟩ := ck; subst ck
    simp only [jnorm, jop] at hj
    split at hj
    · obtain ⟨h1, h2, hQ⟩ := hj
      refine W.widen h1 h2 (jret ?_)
      exact W.vret hx hb (by rw [hr, ck2]) (fun t ht hW => ⟨none, al, h, rfl, hQ, hE, by rw [ht]; exact hH, hS.F ht⟩) hS.2.2 hd hlk
    · exact hj.elim
  | invokevirtual x => exact hn.elim
  | invokestatic x => exact hn.elim
  | invokespecial x => exact hn.elim
  | new x => exact hn.elim
  | newarray x => exact hn.elim
  | _ => exact hj.elim

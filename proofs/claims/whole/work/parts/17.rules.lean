/-! goal first: a rule an instruction, over GO -/
section JR
variable {l : Launch} {E : jEnv} {i pc : Nat} {nx : Nat} {loc : List (Option Value)} {st : List Value} {h : List jC} {c s : Nat} {Q : jO → List jC → Prop}
theorem J_s {ins : Instr} (hz : jcd i pc = some (ins, nx)) (hj : jop l E i pc ins nx loc st h c s (fun nx loc st h c s => GO l E i nx loc st h c s Q) Q) : GO l E i pc loc st h c s Q := by
  refine J_step (K := fun nx loc st h c s => GO l E i nx loc st h c s Q) ?_ (fun _ _ _ _ _ _ h => h)
  unfold jstep
  rw [hz]
  exact hj
theorem R_iload {k : Nat} {x : Int32} (hz : jcd i pc = some (.iload k, nx)) (hg : loc[k]? = some (some (.int x))) (kk : GO l E i nx loc (.int x :: st) h c s Q) : GO l E i pc loc st h c s Q := J_s hz (by simp only [jop, jgi, hg]; exact kk)
theorem R_lload {k : Nat} {x : Int64} (hz : jcd i pc = some (.lload k, nx)) (hg : loc[k]? = some (some (.long x))) (kk : GO l E i nx loc (.long x :: st) h c s Q) : GO l E i pc loc st h c s Q := J_s hz (by simp only [jop, jgl, hg]; exact kk)
theorem R_aload {k : Nat} {x : Nat} (hz : jcd i pc = some (.aload k, nx)) (hg : loc[k]? = some (some (.ref x))) (kk : GO l E i nx loc (.ref x :: st) h c s Q) : GO l E i pc loc st h c s Q := J_s hz (by simp only [jop, jgr, hg]; exact kk)
theorem R_istore {k : Nat} {x : Int32} {loc' : List (Option Value)} (hz : jcd i pc = some (.istore k, nx)) (hf : jfree loc k = true) (hs : loc.set k (some (.int x)) = loc') (kk : GO l E i nx loc' st h c s Q) : GO l E i pc loc (.int x :: st) h c s Q := J_s hz ⟨hf, by rw [hs]; exact kk⟩
theorem R_astore {k : Nat} {x : Nat} {loc' : List (Option Value)} (hz : jcd i pc = some (.astore k, nx)) (hf : jfree loc k = true) (hs : loc.set k (some (.ref x)) = loc') (kk : GO l E i nx loc' st h c s Q) : GO l E i pc loc (.ref x :: st) h c s Q := J_s hz ⟨hf, by rw [hs]; exact kk⟩
theorem R_iinc {k : Nat} {n : Int} {x v : Int32} {loc' : List (Option Value)} (hz : jcd i pc = some (.iinc k n, nx)) (hg : loc[k]? = some (some (.int x))) (hf : jfree loc k = true) (hv : Int32.ofInt n = v) (hs : loc.set k (some (.int (x + v))) = loc') (kk : GO l E i nx loc' st h c s Q) : GO l E i pc loc st h c s Q := J_s hz (by simp only [jop, jgi, hg]; exact ⟨hf, by rw [hv, hs]; exact kk⟩)
theorem R_iconst {n : Int} {v : Int32} (hz : jcd i pc = some (.iconst n, nx)) (hv : Int32.ofInt n = v) (kk : GO l E i nx loc (.int v :: st) h c s Q) : GO l E i pc loc st h c s Q := J_s hz (by subst hv; exact kk)
theorem R_bipush {n : Int} {v : Int32} (hz : jcd i pc = some (.bipush n, nx)) (hv : (Int8.ofInt n).toInt32 = v) (kk : GO l E i nx loc (.int v :: st) h c s Q) : GO l E i pc loc st h c s Q := J_s hz (by subst hv; exact kk)
theorem R_sipush {n : Int} {v : Int32} (hz : jcd i pc = some (.sipush n, nx)) (hv : (Int16.ofInt n).toInt32 = v) (kk : GO l E i nx loc (.int v :: st) h c s Q) : GO l E i pc loc st h c s Q := J_s hz (by subst hv; exact kk)
theorem R_lconst {n : Fin 2} {v : Int64} (hz : jcd i pc = some (.lconst n, nx)) (hv : Int64.ofNat n.val = v) (kk : GO l E i nx loc (.long v :: st) h c s Q) : GO l E i pc loc st h c s Q := J_s hz (by subst hv; exact kk)
theorem R_ldc2 {x : Nat} {v : Int64} (hz : jcd i pc = some (.ldc2_w x, nx)) (hv : jlong i x = some v) (kk : GO l E i nx loc (.long v :: st) h c s Q) : GO l E i pc loc st h c s Q := J_s hz (by simp only [jop, jso, hv]; exact kk)
theorem R_iadd {x y : Int32} (hz : jcd i pc = some (.iadd, nx)) (kk : GO l E i nx loc (.int (x + y) :: st) h c s Q) : GO l E i pc loc (.int y :: .int x :: st) h c s Q := J_s hz kk
theorem R_isub {x y : Int32} (hz : jcd i pc = some (.isub, nx)) (kk : GO l E i nx loc (.int (x - y) :: st) h c s Q) : GO l E i pc loc (.int y :: .int x :: st) h c s Q := J_s hz kk
theorem R_imul {x y : Int32} (hz : jcd i pc = some (.imul, nx)) (kk : GO l E i nx loc (.int (x * y) :: st) h c s Q) : GO l E i pc loc (.int y :: .int x :: st) h c s Q := J_s hz kk
theorem R_iand {x y : Int32} (hz : jcd i pc = some (.iand, nx)) (kk : GO l E i nx loc (.int (x &&& y) :: st) h c s Q) : GO l E i pc loc (.int y :: .int x :: st) h c s Q := J_s hz kk
theorem R_ior {x y : Int32} (hz : jcd i pc = some (.ior, nx)) (kk : GO l E i nx loc (.int (x ||| y) :: st) h c s Q) : GO l E i pc loc (.int y :: .int x :: st) h c s Q := J_s hz kk
theorem R_ixor {x y : Int32} (hz : jcd i pc = some (.ixor, nx)) (kk : GO l E i nx loc (.int (x ^^^ y) :: st) h c s Q) : GO l E i pc loc (.int y :: .int x :: st) h c s Q := J_s hz kk
theorem R_ishl {x y : Int32} (hz : jcd i pc = some (.ishl, nx)) (kk : GO l E i nx loc (.int (x <<< (y &&& 31)) :: st) h c s Q) : GO l E i pc loc (.int y :: .int x :: st) h c s Q := J_s hz kk
theorem R_ishr {x y : Int32} (hz : jcd i pc = some (.ishr, nx)) (kk : GO l E i nx loc (.int (x >>> (y &&& 31)) :: st) h c s Q) : GO l E i pc loc (.int y :: .int x :: st) h c s Q := J_s hz kk
theorem R_idiv {x y : Int32} (hz : jcd i pc = some (.idiv, nx)) (hy : ¬ y = 0) (kk : GO l E i nx loc (.int (x / y) :: st) h c s Q) : GO l E i pc loc (.int y :: .int x :: st) h c s Q := J_s hz ⟨hy, kk⟩
theorem R_irem {x y : Int32} (hz : jcd i pc = some (.irem, nx)) (hy : ¬ y = 0) (kk : GO l E i nx loc (.int (x - x / y * y) :: st) h c s Q) : GO l E i pc loc (.int y :: .int x :: st) h c s Q := J_s hz ⟨hy, kk⟩
theorem R_i2l {x : Int32} (hz : jcd i pc = some (.i2l, nx)) (kk : GO l E i nx loc (.long x.toInt64 :: st) h c s Q) : GO l E i pc loc (.int x :: st) h c s Q := J_s hz kk
theorem R_l2i {x : Int64} (hz : jcd i pc = some (.l2i, nx)) (kk : GO l E i nx loc (.int x.toInt32 :: st) h c s Q) : GO l E i pc loc (.long x :: st) h c s Q := J_s hz kk
theorem R_land {x y : Int64} (hz : jcd i pc = some (.land, nx)) (kk : GO l E i nx loc (.long (x &&& y) :: st) h c s Q) : GO l E i pc loc (.long y :: .long x :: st) h c s Q := J_s hz kk
theorem R_lor {x y : Int64} (hz : jcd i pc = some (.lor, nx)) (kk : GO l E i nx loc (.long (x ||| y) :: st) h c s Q) : GO l E i pc loc (.long y :: .long x :: st) h c s Q := J_s hz kk
theorem R_lshl {x : Int64} {y : Int32} (hz : jcd i pc = some (.lshl, nx)) (kk : GO l E i nx loc (.long (x <<< (y.toInt64 &&& 63)) :: st) h c s Q) : GO l E i pc loc (.int y :: .long x :: st) h c s Q := J_s hz kk
theorem R_lshr {x : Int64} {y : Int32} (hz : jcd i pc = some (.lshr, nx)) (kk : GO l E i nx loc (.long (x >>> (y.toInt64 &&& 63)) :: st) h c s Q) : GO l E i pc loc (.int y :: .long x :: st) h c s Q := J_s hz kk
theorem R_lushr {x : Int64} {y : Int32} (hz : jcd i pc = some (.lushr, nx)) (kk : GO l E i nx loc (.long (x.toUInt64 >>> (y.toInt64.toUInt64 &&& Int64.toUInt64 63)).toInt64 :: st) h c s Q) : GO l E i pc loc (.int y :: .long x :: st) h c s Q := J_s hz kk
theorem R_lcmp {x y : Int64} (hz : jcd i pc = some (.lcmp, nx)) (kk : GO l E i nx loc (.int (lg_cmp x y) :: st) h c s Q) : GO l E i pc loc (.long y :: .long x :: st) h c s Q := J_s hz kk
theorem R_dup {a : Nat} (hz : jcd i pc = some (.dup, nx)) (kk : GO l E i nx loc (.ref a :: .ref a :: st) h c s Q) : GO l E i pc loc (.ref a :: st) h c s Q := J_s hz kk
theorem R_dup2 {a : Nat} {j : Int32} (hz : jcd i pc = some (.dup2, nx)) (kk : GO l E i nx loc (.int j :: .ref a :: .int j :: .ref a :: st) h c s Q) : GO l E i pc loc (.int j :: .ref a :: st) h c s Q := J_s hz kk
theorem R_goto {t : Int} {tn : Nat} (hz : jcd i pc = some (.goto t, nx)) (ht : t.toNat = tn) (kk : GO l E i tn loc st h c s Q) : GO l E i pc loc st h c s Q := J_s hz (by subst ht; exact kk)
theorem R_if {cd : ClassFile.Cond} {t : Int} {tn : Nat} {x : Int32} (hz : jcd i pc = some (.ifCond cd t, nx)) (ht : t.toNat = tn) (k1 : jcnd cd x 0 → GO l E i tn loc st h c s Q) (k2 : ¬ jcnd cd x 0 → GO l E i nx loc st h c s Q) : GO l E i pc loc (.int x :: st) h c s Q := J_s hz ⟨by subst ht; exact k1, k2⟩
theorem R_icmp {cd : ClassFile.Cond} {t : Int} {tn : Nat} {x y : Int32} (hz : jcd i pc = some (.if_icmp cd t, nx)) (ht : t.toNat = tn) (k1 : jcnd cd x y → GO l E i tn loc st h c s Q) (k2 : ¬ jcnd cd x y → GO l E i nx loc st h c s Q) : GO l E i pc loc (.int y :: .int x :: st) h c s Q := J_s hz ⟨by subst ht; exact k1, k2⟩
theorem R_get {x a k f : Nat} {fs : List Value} {v : Value} (hz : jcd i pc = some (.getfield x, nx)) (hq : jfld i x = some (k, f)) (ho : h[a]? = some (.inr (k, fs))) (hv : fs[f]? = some v) (kk : GO l E i nx loc (v :: st) h c s Q) : GO l E i pc loc (.ref a :: st) h c s Q := J_s hz (by simp only [jop, j1r, jso, hq, job, ho, hv]; exact ⟨trivial, kk⟩)
theorem R_puti {x a k f : Nat} {fs : List Value} {v : Int32} {h' : List jC} (hz : jcd i pc = some (.putfield x, nx)) (hq : jfld i x = some (k, f)) (hk : jfk k f = 0) (ho : h[a]? = some (.inr (k, fs))) (hl : f < fs.length) (hh : h.set a (.inr (k, fs.set f (.int v))) = h') (kk : GO l E i nx loc st h' c s Q) : GO l E i pc loc (.int v :: .ref a :: st) h c s Q := J_s hz (by simp only [jop, jso, hq, job, ho]; exact ⟨hk, trivial, hl, by rw [hh]; exact kk⟩)
theorem R_putr {x a k f v : Nat} {fs : List Value} {h' : List jC} (hz : jcd i pc = some (.putfield x, nx)) (hq : jfld i x = some (k, f)) (hk : jfk k f = 1 ∧ (jn i).name = "<init>" ∧ jo i = k) (ho : h[a]? = some (.inr (k, fs))) (hl : f < fs.length) (hh : h.set a (.inr (k, fs.set f (.ref v))) = h') (kk : GO l E i nx loc st h' c s Q) : GO l E i pc loc (.ref v :: .ref a :: st) h c s Q := J_s hz (by simp only [jop, jso, hq, job, ho]; exact ⟨hk.1, hk.2.1, hk.2.2, trivial, hl, by rw [hh]; exact kk⟩)
theorem R_sld {j : Int32} (hz : jcd i pc = some (.iaload, nx)) (hin : vp_in j E.2.2.2.2.2.1) (kk : GO l E i nx loc (.int (E.2.2.2.2.2.2 j.toNatClampNeg) :: st) h c s Q) : GO l E i pc loc (.int j :: .ref 9999 :: st) h c s Q := J_s hz (Or.inl ⟨rfl, hin, kk⟩)
theorem R_slen (hz : jcd i pc = some (.arraylength, nx)) (kk : GO l E i nx loc (.int (Int32.ofNat E.2.2.2.2.2.1) :: st) h c s Q) : GO l E i pc loc (.ref 9999 :: st) h c s Q := J_s hz (Or.inl ⟨rfl, kk⟩)
theorem R_ild {a n : Nat} {f : Nat → Int32} {j v : Int32} (hz : jcd i pc = some (.iaload, nx)) (ho : h[a]? = some (.inl (0, n, .inl f))) (hin : vp_in j n) (hv : f j.toNatClampNeg = v) (kk : GO l E i nx loc (.int v :: st) h c s Q) : GO l E i pc loc (.int j :: .ref a :: st) h c s Q := J_s hz (Or.inr (by simp only [jar, ho]; exact ⟨trivial, hin, by rw [hv]; exact kk⟩))
theorem R_zld {a n : Nat} {f : Nat → Int32} {j v : Int32} (hz : jcd i pc = some (.baload, nx)) (ho : h[a]? = some (.inl (1, n, .inl f))) (hin : vp_in j n) (hv : f j.toNatClampNeg = v) (kk : GO l E i nx loc (.int v :: st) h c s Q) : GO l E i pc loc (.int j :: .ref a :: st) h c s Q := J_s hz (by simp only [jop, jia, jar, ho]; exact ⟨trivial, hin, by rw [hv]; exact kk⟩)
theorem R_lld {a n : Nat} {f : Nat → Int64} {j : Int32} {v : Int64} (hz : jcd i pc = some (.laload, nx)) (ho : h[a]? = some (.inl (2, n, .inr f))) (hin : vp_in j n) (hv : f j.toNatClampNeg = v) (kk : GO l E i nx loc (.long v :: st) h c s Q) : GO l E i pc loc (.int j :: .ref a :: st) h c s Q := J_s hz (by simp only [jop, jia, jal, ho]; exact ⟨trivial, hin, by rw [hv]; exact kk⟩)
theorem R_ist {a n : Nat} {f : Nat → Int32} {j x : Int32} {h' : List jC} (hz : jcd i pc = some (.iastore, nx)) (ho : h[a]? = some (.inl (0, n, .inl f))) (hin : vp_in j n) (hh : h.set a (.inl (0, n, .inl (upd f j.toNatClampNeg x))) = h') (kk : GO l E i nx loc st h' c s Q) : GO l E i pc loc (.int x :: .int j :: .ref a :: st) h c s Q := J_s hz (by simp only [jop, jiia, jar, ho]; exact ⟨trivial, hin, by rw [hh]; exact kk⟩)
theorem R_zst {a n : Nat} {f : Nat → Int32} {j x : Int32} {h' : List jC} (hz : jcd i pc = some (.bastore, nx)) (ho : h[a]? = some (.inl (1, n, .inl f))) (hin : vp_in j n) (hh : h.set a (.inl (1, n, .inl (upd f j.toNatClampNeg (x &&& 1)))) = h') (kk : GO l E i nx loc st h' c s Q) : GO l E i pc loc (.int x :: .int j :: .ref a :: st) h c s Q := J_s hz (by simp only [jop, jiia, jar, ho]; exact ⟨trivial, hin, by rw [hh]; exact kk⟩)
theorem R_lst {a n : Nat} {f : Nat → Int64} {j : Int32} {x : Int64} {h' : List jC} (hz : jcd i pc = some (.lastore, nx)) (ho : h[a]? = some (.inl (2, n, .inr f))) (hin : vp_in j n) (hh : h.set a (.inl (2, n, .inr (vp_updL f j.toNatClampNeg x))) = h') (kk : GO l E i nx loc st h' c s Q) : GO l E i pc loc (.long x :: .int j :: .ref a :: st) h c s Q := J_s hz (by simp only [jop, jlia, jal, ho]; exact ⟨trivial, hin, by rw [hh]; exact kk⟩)
theorem R_alen {a n : Nat} {f : Nat → Int32} {v : Int32} (hz : jcd i pc = some (.arraylength, nx)) (ho : h[a]? = some (.inl (0, n, .inl f))) (hv : Int32.ofNat n = v) (kk : GO l E i nx loc (.int v :: st) h c s Q) : GO l E i pc loc (.ref a :: st) h c s Q := J_s hz (Or.inr (by simp only [jar, ho]; exact ⟨trivial, by rw [hv]; exact kk⟩))
theorem R_iret {v : Int32} (hz : jcd i pc = some (.ireturn, nx)) (hr : (jr i == some .boolean) = false ∨ v &&& 1 = v) (h1 : c ≤ jrc i ∧ s ≤ jrs i) (hQ : Q (.inl (some (.int v))) h) : GO l E i pc loc [.int v] h c s Q := J_s hz ⟨fun e => hr.elim (fun z => by rw [e] at z; cases z) id, h1.1, h1.2, hQ⟩
theorem R_vret (hz : jcd i pc = some (.return_, nx)) (h1 : c ≤ jrc i ∧ s ≤ jrs i) (hQ : Q (.inl none) h) : GO l E i pc loc [] h c s Q := J_s hz ⟨h1.1, h1.2, hQ⟩
theorem R_throw {x : Nat} {q : Nat × Nat × Nat × String × String} {X : String} (hz : jcd i pc = some (.new x, nx)) (hq : jthr i pc = some q) (hX : q.2.2.2.1 = X) (h1 : jrest st = true) (h2 : 6 ≤ (jm i).frames ∧ 90 ≤ (jm i).locals) (h3 : c + 1 ≤ (jm i).cells ∧ s + 6 ≤ (jm i).slots) (hQ : Q (.inr X) h) : GO l E i pc loc st h c s Q := J_s hz (by simp only [jop, hq]; exact ⟨h1, h2.1, h2.2, h3.1, h3.2, by rw [hX]; exact hQ⟩)
theorem R_obj {x a : Nat} (hz : jcd i pc = some (.invokespecial x, nx)) (ho : jobj i x = true) (hr : jrest st = true) (h1 : 1 ≤ (jm i).frames ∧ 20 ≤ (jm i).locals) (kk : GO l E i nx loc st h c s Q) : GO l E i pc loc (.ref a :: st) h c s Q := J_s hz (by simp only [jop, ho]; exact ⟨hr, h1.1, h1.2, kk⟩)
/-- a callee's end, seen by its caller -/
def jBk (l : Launch) (E : jEnv) (i pc nx k : Nat) (loc : List (Option Value)) (r : List Value) (h : List jC) (c s : Nat) (Q : jO → List jC → Prop) : jO → List jC → Prop := jback i pc nx k loc r h c s (fun nx loc st h c s => GO l E i nx loc st h c s Q) Q
theorem R_cv {x k a : Nat} {ps r : List Value} {loc' : List (Option Value)} (hz : jcd i pc = some (.invokevirtual x, nx)) (hq : jcal i x = some (0, k)) (ht : jtake (jp k + 1) [] st = some (.ref a :: ps, r)) (hr : jrest r = true) (hf : jfit i k c s = true) (hlen : (jent (.ref a :: ps)).length ≤ jl k) (hl : jpad (jl k) (jent (.ref a :: ps)) = loc') (ho : job h[a]? (jo k) fun _ => True) (hg : GO l E k 0 loc' [] h 0 0 (jBk l E i pc nx k loc r h c s Q)) : GO l E i pc loc st h c s Q := J_s hz (by
  simp only [jop, jcall, hq, jso]
  refine ⟨List.mem_cons_self, ?_⟩
  rw [show jp k + (if 0 = 1 ∨ 0 = 4 ∨ 0 = 6 then 0 else 1) = jp k + 1 from rfl, ht]
  refine ⟨hr, hf, hlen, fun _ => ho, fun e => ?_, by rw [hl]; exact hg⟩
  rcases e with e | e <;> cases e)
theorem R_cs {x k kind : Nat} {as r : List Value} {loc' : List (Option Value)} (hz : jcd i pc = some (.invokestatic x, nx)) (hq : jcal i x = some (kind, k)) (hk : kind = 1 ∨ kind = 4 ∨ kind = 6) (ht : jtake (jp k) [] st = some (as, r)) (hr : jrest r = true) (hf : jfit i k c s = true) (hlen : (jent as).length ≤ jl k) (hl : jpad (jl k) (jent as) = loc') (hg : GO l E k 0 loc' [] h 0 0 (jBk l E i pc nx k loc r h c s Q)) : GO l E i pc loc st h c s Q := J_s hz (by
  simp only [jop, jcall, hq, jso]
  refine ⟨by rcases hk with rfl | rfl | rfl <;> decide, ?_⟩
  rw [if_pos hk, Nat.add_zero, ht]
  refine ⟨hr, hf, hlen, fun e => ?_, fun e => ?_, by rw [hl]; exact hg⟩
  · rcases hk with rfl | rfl | rfl <;> cases e
  · rcases hk with rfl | rfl | rfl <;> rcases e with e | e <;> cases e)
theorem R_ci {x k kind a : Nat} {ps r : List Value} {loc' : List (Option Value)} (hz : jcd i pc = some (.invokespecial x, nx)) (hob : jobj i x = false) (hq : jcal i x = some (kind, k)) (hk : kind = 2 ∨ kind = 5) (ht : jtake (jp k + 1) [] st = some (.ref a :: ps, r)) (hr : jrest r = true) (hf : jfit i k c s = true) (hlen : (jent (.ref a :: ps)).length ≤ jl k) (hl : jpad (jl k) (jent (.ref a :: ps)) = loc') (hg : GO l E k 0 loc' [] h 0 0 (jBk l E i pc nx k loc r h c s Q)) : GO l E i pc loc st h c s Q := J_s hz (by
  simp only [jop, hob, jcall, hq, jso]
  refine ⟨by rcases hk with rfl | rfl <;> decide, ?_⟩
  rw [if_neg (by rcases hk with rfl | rfl <;> decide), ht]
  refine ⟨hr, hf, hlen, fun e => ?_, fun _ => trivial, by rw [hl]; exact hg⟩
  rcases hk with rfl | rfl <;> cases e)
theorem jBk_ret {k : Nat} {r : List Value} {h' : List jC} {v : Option Value} (hl : h'.length = h.length) (hk : jrc k = 0 ∧ jrs k = 0) (kk : GO l E i nx loc (v.toList ++ r) h' c s Q) : jBk l E i pc nx k loc r h c s Q (.inl v) h' := ⟨Or.inl hl, by rw [hk.1, hk.2]; exact kk⟩
theorem jBk_retw {k c' s' : Nat} {r : List Value} {h' : List jC} {v : Option Value} (hl : h'.length = h.length ∨ jwf h.length loc r = true) (hc : c + jrc k = c') (hs : s + jrs k = s') (kk : GO l E i nx loc (v.toList ++ r) h' c' s' Q) : jBk l E i pc nx k loc r h c s Q (.inl v) h' := ⟨hl, by rw [hc, hs]; exact kk⟩
theorem jBk_thr {k : Nat} {r : List Value} {h' : List jC} {X : String} (hl : h'.length = h.length) (hh : jHC.getD i [] = [] ∧ (jh i).isEmpty = true) (hQ : Q (.inr X) h') : jBk l E i pc nx k loc r h c s Q (.inr X) h' := ⟨Or.inl hl, by
  have e : jhan i pc X = none := by unfold jhan; rw [hh.1]; rfl
  rw [e]
  exact ⟨hh.2, hQ⟩⟩
theorem jBk_cat {k q j nx2 c' s' : Nat} {r : List Value} {loc' : List (Option Value)} {h' : List jC} {X : String} (hl : h'.length = h.length) (hq : jhan i pc X = some q) (hz : jcd i q = some (.astore j, nx2)) (hf : jfree loc j = true) (hs : loc.set j none = loc') (hc : c + (jm k).cells = c') (hs2 : s + (jm k).slots = s') (kk : GO l E i nx2 loc' [] h' c' s' Q) : jBk l E i pc nx k loc r h c s Q (.inr X) h' := ⟨Or.inl hl, by
  rw [hq]
  simp only [jso, hz]
  exact ⟨hf, by rw [hs, hc, hs2]; exact kk⟩⟩
theorem R_new {x k : Nat} {c' s' : Nat} {h' : List jC} {n : Nat} (hz : jcd i pc = some (.new x, nx)) (ht : jthr i pc = none) (hq : jnew i x = some k) (hn : h.length = n) (h1 : jwf n loc st = true) (h2 : jwfh n h = true) (h3 : n < 9999) (hc : c + 1 = c') (hs : s + (jdef k).length = s') (h4 : c' ≤ (jm i).cells) (h5 : s' ≤ (jm i).slots) (hh : h ++ [.inr (k, jdef k)] = h') (kk : GO l E i nx loc (.ref n :: st) h' c' s' Q) : GO l E i pc loc st h c s Q := J_s hz (by
  subst hn; subst hc; subst hs; subst hh
  simp only [jop, ht, jso, hq]
  exact ⟨h1, h2, h3, h4, h5, kk⟩)
theorem R_newi {v : Int32} {c' s' : Nat} {h' : List jC} {n N : Nat} (hz : jcd i pc = some (.newarray .int, nx)) (hn : h.length = n) (hN : v.toNatClampNeg = N) (h1 : jwf n loc st = true) (h2 : jwfh n h = true) (h3 : n < 9999) (hv : ¬ v < 0) (hv2 : N ≤ 100000) (hc : c + 1 = c') (hs : s + N = s') (h4 : c' ≤ (jm i).cells) (h5 : s' ≤ (jm i).slots) (hh : h ++ [.inl (0, N, .inl fun _ => 0)] = h') (kk : GO l E i nx loc (.ref n :: st) h' c' s' Q) : GO l E i pc loc (.int v :: st) h c s Q := J_s hz (by
  subst hn; subst hN; subst hc; subst hs; subst hh
  exact ⟨h1, h2, h3, hv, hv2, h4, h5, kk⟩)
theorem R_newz {v : Int32} {c' s' : Nat} {h' : List jC} {n N : Nat} (hz : jcd i pc = some (.newarray .boolean, nx)) (hn : h.length = n) (hN : v.toNatClampNeg = N) (h1 : jwf n loc st = true) (h2 : jwfh n h = true) (h3 : n < 9999) (hv : ¬ v < 0) (hv2 : N ≤ 100000) (hc : c + 1 = c') (hs : s + N = s') (h4 : c' ≤ (jm i).cells) (h5 : s' ≤ (jm i).slots) (hh : h ++ [.inl (1, N, .inl fun _ => 0)] = h') (kk : GO l E i nx loc (.ref n :: st) h' c' s' Q) : GO l E i pc loc (.int v :: st) h c s Q := J_s hz (by
  subst hn; subst hN; subst hc; subst hs; subst hh
  exact ⟨h1, h2, h3, hv, hv2, h4, h5, kk⟩)
theorem R_newl {v : Int32} {c' s' : Nat} {h' : List jC} {n N : Nat} (hz : jcd i pc = some (.newarray .long, nx)) (hn : h.length = n) (hN : v.toNatClampNeg = N) (h1 : jwf n loc st = true) (h2 : jwfh n h = true) (h3 : n < 9999) (hv : ¬ v < 0) (hv2 : N ≤ 100000) (hc : c + 1 = c') (hs : s + N = s') (h4 : c' ≤ (jm i).cells) (h5 : s' ≤ (jm i).slots) (hh : h ++ [.inl (2, N, .inr fun _ => 0)] = h') (kk : GO l E i nx loc (.ref n :: st) h' c' s' Q) : GO l E i pc loc (.int v :: st) h c s Q := J_s hz (by
  subst hn; subst hN; subst hc; subst hs; subst hh
  exact ⟨h1, h2, h3, hv, hv2, h4, h5, kk⟩)
end JR

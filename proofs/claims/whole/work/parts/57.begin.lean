theorem same_forget {s t : State} {L : List Loc} {k n : Nat} (h : s.sameButNew t L k n) (hL : ∀ q ∈ L, s.heap.size ≤ q.base) : s.sameButNew t [] k n := by
  obtain ⟨h1, h2, h3, h4, h5, h6⟩ := h
  refine ⟨h1, h2, h3, h4, h5, fun a c hc => ?_⟩
  obtain ⟨c', e1, e2, e3, e4⟩ := h6 a c hc
  refine ⟨c', e1, e2, e3, fun i _ => e4 i (fun hm => ?_)⟩
  have h7 : s.heap.size ≤ a := hL _ hm
  have h8 := (Array.getElem?_eq_some_iff.mp hc).1
  exact absurd h8 (Nat.not_lt.mpr h7)
theorem jtw {b : Nat} {s : State} (hts : ∀ w ∈ lw_tbl, w.before #[Value.ref b] s = true) (i : Nat) {w : Cond} (h : lw_tbl[i]? = some w) : w.before #[Value.ref b] s = true := hts w (List.mem_of_getElem? h)
theorem jfw {b : Nat} {s : State} (hgv : (Jvm.Cond.and given_1 narrow_1).before #[Value.ref b] s = true) (i : Nat) {w : Cond} (h : (flatC (Jvm.Cond.and given_1 narrow_1))[i]? = some w) : w.before #[Value.ref b] s = true := flat_of_before _ hgv w (List.mem_of_getElem? h)
theorem jstr_47 {b : Nat} {s : State} (hts : ∀ w ∈ lw_tbl, w.before #[Value.ref b] s = true) (hgv : (Jvm.Cond.and given_1 narrow_1).before #[Value.ref b] s = true) : ∃ sa, vk_R "TrainingRows" 47 "no room for one more course" sa s := by
  have h1 : (Cond.stringRef "TrainingRows" 47 "no room for one more course").before #[Value.ref b] s = true := jtw hts 292 (by decide +kernel)
  have h2 : (Cond.exactly (.string "TrainingRows" 47) "java/lang/String").before #[Value.ref b] s = true := jfw hgv 71 (by decide +kernel)
  obtain ⟨a, _, _, _, h3, _⟩ := Cond.exactly_spec h2
  exact ⟨a, vk_R.of h1 h3⟩
theorem jstr_66 {b : Nat} {s : State} (hts : ∀ w ∈ lw_tbl, w.before #[Value.ref b] s = true) (hgv : (Jvm.Cond.and given_1 narrow_1).before #[Value.ref b] s = true) : ∃ sa, vk_R "TrainingRows" 66 "the course would need itself" sa s := by
  have h1 : (Cond.stringRef "TrainingRows" 66 "the course would need itself").before #[Value.ref b] s = true := jtw hts 348 (by decide +kernel)
  have h2 : (Cond.exactly (.string "TrainingRows" 66) "java/lang/String").before #[Value.ref b] s = true := jfw hgv 123 (by decide +kernel)
  obtain ⟨a, _, _, _, h3, _⟩ := Cond.exactly_spec h2
  exact ⟨a, vk_R.of h1 h3⟩
theorem jstr_76 {b : Nat} {s : State} (hts : ∀ w ∈ lw_tbl, w.before #[Value.ref b] s = true) (hgv : (Jvm.Cond.and given_1 narrow_1).before #[Value.ref b] s = true) : ∃ sa, vk_R "TrainingRows" 76 "the course needs that one already" sa s := by
  have h1 : (Cond.stringRef "TrainingRows" 76 "the course needs that one already").before #[Value.ref b] s = true := jtw hts 356 (by decide +kernel)
  have h2 : (Cond.exactly (.string "TrainingRows" 76) "java/lang/String").before #[Value.ref b] s = true := jfw hgv 158 (by decide +kernel)
  obtain ⟨a, _, _, _, h3, _⟩ := Cond.exactly_spec h2
  exact ⟨a, vk_R.of h1 h3⟩
theorem jstr_95 {b : Nat} {s : State} (hts : ∀ w ∈ lw_tbl, w.before #[Value.ref b] s = true) (hgv : (Jvm.Cond.and given_1 narrow_1).before #[Value.ref b] s = true) : ∃ sa, vk_R "TrainingRows" 95 "the person is barred" sa s := by
  have h1 : (Cond.stringRef "TrainingRows" 95 "the person is barred").before #[Value.ref b] s = true := jtw hts 422 (by decide +kernel)
  have h2 : (Cond.exactly (.string "TrainingRows" 95) "java/lang/String").before #[Value.ref b] s = true := jfw hgv 222 (by decide +kernel)
  obtain ⟨a, _, _, _, h3, _⟩ := Cond.exactly_spec h2
  exact ⟨a, vk_R.of h1 h3⟩
theorem jstr_101 {b : Nat} {s : State} (hts : ∀ w ∈ lw_tbl, w.before #[Value.ref b] s = true) (hgv : (Jvm.Cond.and given_1 narrow_1).before #[Value.ref b] s = true) : ∃ sa, vk_R "TrainingRows" 101 "the course has no room" sa s := by
  have h1 : (Cond.stringRef "TrainingRows" 101 "the course has no room").before #[Value.ref b] s = true := jtw hts 434 (by decide +kernel)
  have h2 : (Cond.exactly (.string "TrainingRows" 101) "java/lang/String").before #[Value.ref b] s = true := jfw hgv 252 (by decide +kernel)
  obtain ⟨a, _, _, _, h3, _⟩ := Cond.exactly_spec h2
  exact ⟨a, vk_R.of h1 h3⟩
theorem jstr_117 {b : Nat} {s : State} (hts : ∀ w ∈ lw_tbl, w.before #[Value.ref b] s = true) (hgv : (Jvm.Cond.and given_1 narrow_1).before #[Value.ref b] s = true) : ∃ sa, vk_R "TrainingRows" 117 "the course has a result" sa s := by
  have h1 : (Cond.stringRef "TrainingRows" 117 "the course has a result").before #[Value.ref b] s = true := jtw hts 463 (by decide +kernel)
  have h2 : (Cond.exactly (.string "TrainingRows" 117) "java/lang/String").before #[Value.ref b] s = true := jfw hgv 324 (by decide +kernel)
  obtain ⟨a, _, _, _, h3, _⟩ := Cond.exactly_spec h2
  exact ⟨a, vk_R.of h1 h3⟩
theorem jstr_122 {b : Nat} {s : State} (hts : ∀ w ∈ lw_tbl, w.before #[Value.ref b] s = true) (hgv : (Jvm.Cond.and given_1 narrow_1).before #[Value.ref b] s = true) : ∃ sa, vk_R "TrainingRows" 122 "it is so already" sa s := by
  have h1 : (Cond.stringRef "TrainingRows" 122 "it is so already").before #[Value.ref b] s = true := jtw hts 471 (by decide +kernel)
  have h2 : (Cond.exactly (.string "TrainingRows" 122) "java/lang/String").before #[Value.ref b] s = true := jfw hgv 360 (by decide +kernel)
  obtain ⟨a, _, _, _, h3, _⟩ := Cond.exactly_spec h2
  exact ⟨a, vk_R.of h1 h3⟩
theorem jstr_127 {b : Nat} {s : State} (hts : ∀ w ∈ lw_tbl, w.before #[Value.ref b] s = true) (hgv : (Jvm.Cond.and given_1 narrow_1).before #[Value.ref b] s = true) : ∃ sa, vk_R "TrainingRows" 127 "the person does not hold the course" sa s := by
  have h1 : (Cond.stringRef "TrainingRows" 127 "the person does not hold the course").before #[Value.ref b] s = true := jtw hts 472 (by decide +kernel)
  have h2 : (Cond.exactly (.string "TrainingRows" 127) "java/lang/String").before #[Value.ref b] s = true := jfw hgv 390 (by decide +kernel)
  obtain ⟨a, _, _, _, h3, _⟩ := Cond.exactly_spec h2
  exact ⟨a, vk_R.of h1 h3⟩
theorem jstr_177 {b : Nat} {s : State} (hts : ∀ w ∈ lw_tbl, w.before #[Value.ref b] s = true) (hgv : (Jvm.Cond.and given_1 narrow_1).before #[Value.ref b] s = true) : ∃ sa, vk_R "TrainingRows" 177 "the latest plan has no such seat" sa s := by
  have h1 : (Cond.stringRef "TrainingRows" 177 "the latest plan has no such seat").before #[Value.ref b] s = true := jtw hts 586 (by decide +kernel)
  have h2 : (Cond.exactly (.string "TrainingRows" 177) "java/lang/String").before #[Value.ref b] s = true := jfw hgv 440 (by decide +kernel)
  obtain ⟨a, _, _, _, h3, _⟩ := Cond.exactly_spec h2
  exact ⟨a, vk_R.of h1 h3⟩
theorem jstr_185 {b : Nat} {s : State} (hts : ∀ w ∈ lw_tbl, w.before #[Value.ref b] s = true) (hgv : (Jvm.Cond.and given_1 narrow_1).before #[Value.ref b] s = true) : ∃ sa, vk_R "TrainingRows" 185 "a place in a row is 0 at least" sa s := by
  have h1 : (Cond.stringRef "TrainingRows" 185 "a place in a row is 0 at least").before #[Value.ref b] s = true := jtw hts 594 (by decide +kernel)
  have h2 : (Cond.exactly (.string "TrainingRows" 185) "java/lang/String").before #[Value.ref b] s = true := jfw hgv 488 (by decide +kernel)
  obtain ⟨a, _, _, _, h3, _⟩ := Cond.exactly_spec h2
  exact ⟨a, vk_R.of h1 h3⟩
theorem jstr_200 {b : Nat} {s : State} (hts : ∀ w ∈ lw_tbl, w.before #[Value.ref b] s = true) (hgv : (Jvm.Cond.and given_1 narrow_1).before #[Value.ref b] s = true) : ∃ sa, vk_R "TrainingRows" 200 "no such count" sa s := by
  have h1 : (Cond.stringRef "TrainingRows" 200 "no such count").before #[Value.ref b] s = true := jtw hts 606 (by decide +kernel)
  have h2 : (Cond.exactly (.string "TrainingRows" 200) "java/lang/String").before #[Value.ref b] s = true := jfw hgv 535 (by decide +kernel)
  obtain ⟨a, _, _, _, h3, _⟩ := Cond.exactly_spec h2
  exact ⟨a, vk_R.of h1 h3⟩
theorem jstr_202 {b : Nat} {s : State} (hts : ∀ w ∈ lw_tbl, w.before #[Value.ref b] s = true) (hgv : (Jvm.Cond.and given_1 narrow_1).before #[Value.ref b] s = true) : ∃ sa, vk_R "TrainingRows" 202 "no such course" sa s := by
  have h1 : (Cond.stringRef "TrainingRows" 202 "no such course").before #[Value.ref b] s = true := jtw hts 325 (by decide +kernel)
  have h2 : (Cond.exactly (.string "TrainingRows" 202) "java/lang/String").before #[Value.ref b] s = true := jfw hgv 103 (by decide +kernel)
  obtain ⟨a, _, _, _, h3, _⟩ := Cond.exactly_spec h2
  exact ⟨a, vk_R.of h1 h3⟩
theorem jstr_204 {b : Nat} {s : State} (hts : ∀ w ∈ lw_tbl, w.before #[Value.ref b] s = true) (hgv : (Jvm.Cond.and given_1 narrow_1).before #[Value.ref b] s = true) : ∃ sa, vk_R "TrainingRows" 204 "no such person" sa s := by
  have h1 : (Cond.stringRef "TrainingRows" 204 "no such person").before #[Value.ref b] s = true := jtw hts 398 (by decide +kernel)
  have h2 : (Cond.exactly (.string "TrainingRows" 204) "java/lang/String").before #[Value.ref b] s = true := jfw hgv 199 (by decide +kernel)
  obtain ⟨a, _, _, _, h3, _⟩ := Cond.exactly_spec h2
  exact ⟨a, vk_R.of h1 h3⟩
theorem jstr_206 {b : Nat} {s : State} (hts : ∀ w ∈ lw_tbl, w.before #[Value.ref b] s = true) (hgv : (Jvm.Cond.and given_1 narrow_1).before #[Value.ref b] s = true) : ∃ sa, vk_R "TrainingRows" 206 "a number is outside its range" sa s := by
  have h1 : (Cond.stringRef "TrainingRows" 206 "a number is outside its range").before #[Value.ref b] s = true := jtw hts 252 (by decide +kernel)
  have h2 : (Cond.exactly (.string "TrainingRows" 206) "java/lang/String").before #[Value.ref b] s = true := jfw hgv 38 (by decide +kernel)
  obtain ⟨a, _, _, _, h3, _⟩ := Cond.exactly_spec h2
  exact ⟨a, vk_R.of h1 h3⟩
theorem jstr_209 {b : Nat} {s : State} (hts : ∀ w ∈ lw_tbl, w.before #[Value.ref b] s = true) (hgv : (Jvm.Cond.and given_1 narrow_1).before #[Value.ref b] s = true) : ∃ sa, vk_R "TrainingRows" 209 "no room for one more result" sa s := by
  have h1 : (Cond.stringRef "TrainingRows" 209 "no room for one more result").before #[Value.ref b] s = true := jtw hts 443 (by decide +kernel)
  have h2 : (Cond.exactly (.string "TrainingRows" 209) "java/lang/String").before #[Value.ref b] s = true := jfw hgv 285 (by decide +kernel)
  obtain ⟨a, _, _, _, h3, _⟩ := Cond.exactly_spec h2
  exact ⟨a, vk_R.of h1 h3⟩
theorem jnc_all {b : Nat} {s : State} (hgv : (Jvm.Cond.and given_1 narrow_1).before #[Value.ref b] s = true) : ∀ q ∈ jNcL, va_Nc q.1 q.2 s :=
  List.forall_mem_cons.mpr ⟨va_Nc.of (jfw hgv 36 (by decide +kernel)), List.forall_mem_cons.mpr ⟨va_Nc.of (jfw hgv 28 (by decide +kernel)), List.forall_mem_cons.mpr ⟨va_Nc.of (jfw hgv 11 (by decide +kernel)), List.forall_mem_cons.mpr ⟨va_Nc.of (jfw hgv 21 (by decide +kernel)), List.forall_mem_cons.mpr ⟨va_Nc.of (jfw hgv 29 (by decide +kernel)), List.forall_mem_cons.mpr ⟨va_Nc.of (jfw hgv 13 (by decide +kernel)), List.forall_mem_cons.mpr ⟨va_Nc.of (jfw hgv 20 (by decide +kernel)), List.forall_mem_cons.mpr ⟨va_Nc.of (jfw hgv 37 (by decide +kernel)), List.forall_mem_cons.mpr ⟨va_Nc.of (jfw hgv 12 (by decide +kernel)), List.forall_mem_cons.mpr ⟨va_Nc.of (jfw hgv 19 (by decide +kernel)), List.forall_mem_cons.mpr ⟨va_Nc.of (jfw hgv 35 (by decide +kernel)), List.forall_mem_cons.mpr ⟨va_Nc.of (jfw hgv 27 (by decide +kernel)), fun _ h => absurd h List.not_mem_nil⟩⟩⟩⟩⟩⟩⟩⟩⟩⟩⟩⟩
theorem jstr_all {b : Nat} {s : State} (hts : ∀ w ∈ lw_tbl, w.before #[Value.ref b] s = true) (hgv : (Jvm.Cond.and given_1 narrow_1).before #[Value.ref b] s = true) : ∀ q ∈ jStr, ∃ sa, vk_R "TrainingRows" q.1 q.2 sa s :=
  show ∀ q ∈ [(47, "no room for one more course"), (66, "the course would need itself"), (76, "the course needs that one already"), (95, "the person is barred"), (101, "the course has no room"), (117, "the course has a result"), (122, "it is so already"), (127, "the person does not hold the course"), (127, "the person does not hold the course"), (177, "the latest plan has no such seat"), (185, "a place in a row is 0 at least"), (200, "no such count"), (202, "no such course"), (204, "no such person"), (206, "a number is outside its range"), (209, "no room for one more result")], ∃ sa, vk_R "TrainingRows" q.1 q.2 sa s from List.forall_mem_cons.mpr ⟨jstr_47 hts hgv, List.forall_mem_cons.mpr ⟨jstr_66 hts hgv, List.forall_mem_cons.mpr ⟨jstr_76 hts hgv, List.forall_mem_cons.mpr ⟨jstr_95 hts hgv, List.forall_mem_cons.mpr ⟨jstr_101 hts hgv, List.forall_mem_cons.mpr ⟨jstr_117 hts hgv, List.forall_mem_cons.mpr ⟨jstr_122 hts hgv, List.forall_mem_cons.mpr ⟨jstr_127 hts hgv, List.forall_mem_cons.mpr ⟨jstr_127 hts hgv, List.forall_mem_cons.mpr ⟨jstr_177 hts hgv, List.forall_mem_cons.mpr ⟨jstr_185 hts hgv, List.forall_mem_cons.mpr ⟨jstr_200 hts hgv, List.forall_mem_cons.mpr ⟨jstr_202 hts hgv, List.forall_mem_cons.mpr ⟨jstr_204 hts hgv, List.forall_mem_cons.mpr ⟨jstr_206 hts hgv, List.forall_mem_cons.mpr ⟨jstr_209 hts hgv, fun _ h => absurd h List.not_mem_nil⟩⟩⟩⟩⟩⟩⟩⟩⟩⟩⟩⟩⟩⟩⟩⟩
theorem jnest_all {b : Nat} {s : State} (hts : ∀ w ∈ lw_tbl, w.before #[Value.ref b] s = true) : ∀ q ∈ jNest, va_Nw (.methodLinkNest q.1 q.2.1 q.2.2.1 q.2.2.2) s :=
  List.forall_mem_cons.mpr ⟨jtw (w := .methodLinkNest "TrainingRows" 11 ⟨"TrainingRows$Courses", "<init>", "()V"⟩ "TrainingRows") hts 64 (by decide +kernel), List.forall_mem_cons.mpr ⟨jtw (w := .methodLinkNest "TrainingRows" 25 ⟨"TrainingRows$Seating", "<init>", "()V"⟩ "TrainingRows") hts 156 (by decide +kernel), List.forall_mem_cons.mpr ⟨jtw (w := .methodLinkNest "TrainingRows$Courses" 44 ⟨"TrainingRows", "isIn", "(II)Z"⟩ "TrainingRows") hts 336 (by decide +kernel), List.forall_mem_cons.mpr ⟨jtw (w := .methodLinkNest "TrainingRows$Seating" 45 ⟨"TrainingRows", "isIn", "(II)Z"⟩ "TrainingRows") hts 558 (by decide +kernel), fun _ h => absurd h List.not_mem_nil⟩⟩⟩⟩
theorem jdecl_all {b : Nat} {s : State} (hts : ∀ w ∈ lw_tbl, w.before #[Value.ref b] s = true) : ∀ q ∈ jDecl, va_Nw (.declares q) s :=
  List.forall_mem_cons.mpr ⟨jtw (w := .declares ⟨"java/lang/RuntimeException", "<init>", "(Ljava/lang/String;)V"⟩) hts 214 (by decide +kernel), List.forall_mem_cons.mpr ⟨jtw (w := .declares ⟨"java/lang/Exception", "<init>", "(Ljava/lang/String;)V"⟩) hts 216 (by decide +kernel), List.forall_mem_cons.mpr ⟨jtw (w := .declares ⟨"java/lang/Throwable", "<init>", "(Ljava/lang/String;)V"⟩) hts 218 (by decide +kernel), fun _ h => absurd h List.not_mem_nil⟩⟩⟩
theorem jcast_all {b : Nat} {s : State} (hts : ∀ w ∈ lw_tbl, w.before #[Value.ref b] s = true) : ∀ q ∈ jCast, va_Nw (.castable q q) s :=
  List.forall_mem_cons.mpr ⟨jtw (w := .castable "java/lang/UnsupportedOperationException" "java/lang/UnsupportedOperationException") hts 285 (by decide +kernel), List.forall_mem_cons.mpr ⟨jtw (w := .castable "java/lang/IllegalStateException" "java/lang/IllegalStateException") hts 341 (by decide +kernel), List.forall_mem_cons.mpr ⟨jtw (w := .castable "java/lang/IllegalArgumentException" "java/lang/IllegalArgumentException") hts 318 (by decide +kernel), List.forall_mem_cons.mpr ⟨jtw (w := .castable "java/lang/IndexOutOfBoundsException" "java/lang/IndexOutOfBoundsException") hts 212 (by decide +kernel), fun _ h => absurd h List.not_mem_nil⟩⟩⟩⟩
theorem jarr_start {s : State} {args : Array Value} {ty : FieldType} (hw : (Cond.arrayClass ty).before args s = true) (ht3 : ty = .int ∨ ty = .boolean ∨ ty = .long) : ∃ cA : ClassId, ArrOfT s cA ty ∧ va_RA s cA ty := by
  obtain ⟨cA, kA, comp, h1, h2, h3⟩ := Cond.arrayClass_spec hw
  refine ⟨cA, fun n z => ⟨fun k h => ?_, kA, h2, comp, h3⟩, ?_⟩
  · cases h
  · rcases ht3 with rfl | rfl | rfl <;> exact h1
theorem jstart {s : State} {b L : Nat} {xs : Nat → Int32} (hts : ∀ w ∈ lw_tbl, w.before #[Value.ref b] s = true) (hX : va_X b L xs s s.heap) (hbl : b < s.heap.size) (hgv : (Jvm.Cond.and given_1 narrow_1).before #[Value.ref b] s = true) : ∃ E : jEnv, E.2.2.2 = (s.heap.size, b, L, xs) ∧ jBase E s s.heap := by
  have hG : ∀ w ∈ jGW, w.before #[Value.ref b] s = true := fun w hw => hts w (List.mem_filter.mp hw).1
  obtain ⟨c0, i0, k0⟩ := u_known (C := "TrainingRows$Courses") (T := jT0) (N := 10) (n := 10) hG jlay0 (jtw hts 63 (by decide +kernel))
  obtain ⟨c1, i1, k1⟩ := u_known (C := "TrainingRows$Records") (T := jT1) (N := 9) (n := 9) hG jlay1 (jtw hts 111 (by decide +kernel))
  obtain ⟨c2, i2, k2⟩ := u_known (C := "TrainingRows$Seating") (T := jT2) (N := 6) (n := 6) hG jlay2 (jtw hts 155 (by decide +kernel))
  obtain ⟨c3, i3, k3⟩ := u_known (C := "TrainingRows") (T := jT3) (N := 5) (n := 5) hG jlay3 (jtw hts 55 (by decide +kernel))
  obtain ⟨c4, i4, k4⟩ := u_known (C := "TrainingRowsModel") (T := jT4) (N := 25) (n := 25) hG jlay4 (jtw hts 608 (by decide +kernel))
  obtain ⟨a0, ha0⟩ := jarr_start (hG _ (jgood_spec jarr_ok.1)) (Or.inl rfl)
  obtain ⟨a1, ha1⟩ := jarr_start (hG _ (jgood_spec jarr_ok.2.1)) (Or.inr (Or.inl rfl))
  obtain ⟨a2, ha2⟩ := jarr_start (hG _ (jgood_spec jarr_ok.2.2)) (Or.inr (Or.inr rfl))
  refine ⟨(fun k => if k = 0 then c0 else if k = 1 then c1 else if k = 2 then c2 else if k = 3 then c3 else c4, fun k => if k = 0 then i0 else if k = 1 then i1 else if k = 2 then i2 else if k = 3 then i3 else i4, fun k => if k = 0 then a0 else if k = 1 then a1 else a2, s.heap.size, b, L, xs), rfl, ⟨fun k q hq => ?_, fun k q hq => ?_⟩, ?_, ?_, jstr_all hts hgv, jnc_all hgv, jnest_all hts, jdecl_all hts, jcast_all hts, hX, Nat.le_refl _, hbl⟩
  · match k, hq with
    | 0, hq => cases hq; exact k0
    | 1, hq => cases hq; exact k1
    | 2, hq => cases hq; exact k2
    | 3, hq => cases hq; exact k3
    | 4, hq => cases hq; exact k4
    | k + 5, hq => simp [jCl] at hq
  · match k, hq with
    | 0, hq => cases hq; exact ha0
    | 1, hq => cases hq; exact ha1
    | 2, hq => cases hq; exact ha2
    | k + 3, hq => simp [jtys] at hq
  · exact vx_Zqof (jtw hts 237 (by decide +kernel)) (jtw hts 46 (by decide +kernel)) (jfw hgv 4 (by decide +kernel)) (fun a h => Nat.not_le.mpr h)
  · exact vx_Zqof (jtw hts 239 (by decide +kernel)) (jtw hts 46 (by decide +kernel)) (jfw hgv 5 (by decide +kernel)) (fun a h => Nat.not_le.mpr h)

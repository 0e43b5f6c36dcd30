theorem jfit_mk {i k c s : Nat} (h : jfit i k 0 0 = true) (hc : c + (jm k).cells ≤ (jm i).cells) (hs : s + (jm k).slots ≤ (jm i).slots) : jfit i k c s = true := by
  unfold jfit at h ⊢
  simp only [Bool.and_eq_true, decide_eq_true_eq] at h ⊢
  exact ⟨⟨h.1.1, hc⟩, hs⟩
theorem lgc {x y : Int64} (h : x = y) : lg_cmp x y = 0 := by
  subst h
  unfold lg_cmp
  simp
/-- in the script -/
def sIn (E : jEnv) (i : Int32) : Prop := vp_in (i + 1) E.2.2.2.2.2.1 ∧ vp_in (i + 2) E.2.2.2.2.2.1 ∧ vp_in (i + 3) E.2.2.2.2.2.1 ∧ vp_in (i + 4) E.2.2.2.2.2.1
theorem w100 {l : Launch} {E : jEnv} {A : Nat → Nat → Int32} {V : Nat → Int32} {O : Nat → Int64} {Q : jO → List jC → Prop} {c s : Nat} {i : Int32} (hS : sIn E i) (hc : c ≤ 1080) (hs : s ≤ 28500) (hH : GO l E 100 0 [some (.ref 0), some (.int (E.2.2.2.2.2.2 (i + 1).toNatClampNeg)), some (.int (E.2.2.2.2.2.2 (i + 2).toNatClampNeg)), some (.int (E.2.2.2.2.2.2 (i + 3).toNatClampNeg)), some (.ref 45), none] [] (hp A V O) 0 0 (jHP l E 67 [some (.ref 25), some (.int (E.2.2.2.2.2.2 (i + 1).toNatClampNeg)), some (.int (E.2.2.2.2.2.2 (i + 2).toNatClampNeg)), some (.int (E.2.2.2.2.2.2 (i + 3).toNatClampNeg))] jMP)) (hK : ∀ (A : Nat → Nat → Int32) (V : Nat → Int32) (O : Nat → Int64) (n r D m : Nat), Rel A V n r D m → GO l E 118 1303 [some (.ref 9999), some (.ref 0), some (.ref 25), some (.ref 45), some (.int i), none, none] [] (hp A V O) (c + 1) (s + 6) Q) : GO l E 118 124 [some (.ref 9999), some (.ref 0), some (.ref 25), some (.ref 45), some (.int i), none, none] [] (hp A V O) c s Q := by
  refine R_aload z118_124 rfl ?_
  refine R_aload z118_125 rfl ?_
  refine R_iload z118_126 rfl ?_
  refine R_iconst z118_128 (v := 1) (by decide) ?_
  refine R_iadd z118_129 ?_
  refine R_sld z118_130 (hS.1) ?_
  refine R_aload z118_131 rfl ?_
  refine R_iload z118_132 rfl ?_
  refine R_iconst z118_134 (v := 2) (by decide) ?_
  refine R_iadd z118_135 ?_
  refine R_sld z118_136 (hS.2.1) ?_
  refine R_aload z118_137 rfl ?_
  refine R_iload z118_138 rfl ?_
  refine R_iconst z118_140 (v := 3) (by decide) ?_
  refine R_iadd z118_141 ?_
  refine R_sld z118_142 (hS.2.2.1) ?_
  refine R_aload z118_143 rfl ?_
  refine R_cs z118_144 (k := 100) (kind := 6) (by decide +kernel) (by decide) rfl rfl (jfit_mk (by decide +kernel) (show c + 1 ≤ 1086 by omega) (show s + 6 ≤ 28528 by omega)) (Nat.le_of_ble_eq_true (by rfl)) rfl ?_
  refine GO_imp (fun o h' hh => ?_) hH
  obtain ⟨k, A1, V1, O1, rfl, rfl, hM⟩ := hh
  refine jBk_retw (Or.inl rfl) (c' := c + 1) (s' := s + 6) rfl rfl ?_
  refine R_istore z118_147 (loc' := [some (.ref 9999), some (.ref 0), some (.ref 25), some (.ref 45), some (.int i), some (.int k), none]) rfl rfl ?_
  refine R_aload z118_149 rfl ?_
  refine R_aload z118_150 rfl ?_
  refine R_iload z118_151 rfl ?_
  refine R_iconst z118_153 (v := 1) (by decide) ?_
  refine R_iadd z118_154 ?_
  refine R_sld z118_155 (hS.1) ?_
  refine R_aload z118_156 rfl ?_
  refine R_iload z118_157 rfl ?_
  refine R_iconst z118_159 (v := 2) (by decide) ?_
  refine R_iadd z118_160 ?_
  refine R_sld z118_161 (hS.2.1) ?_
  refine R_aload z118_162 rfl ?_
  refine R_iload z118_163 rfl ?_
  refine R_iconst z118_165 (v := 3) (by decide) ?_
  refine R_iadd z118_166 ?_
  refine R_sld z118_167 (hS.2.2.1) ?_
  refine R_cv z118_168 (k := 67) (by decide +kernel) rfl rfl (jfit_mk (by decide +kernel) (show c + 1 + 0 ≤ 1086 by omega) (show s + 6 + 0 ≤ 28528 by omega)) (Nat.le_of_ble_eq_true (by rfl)) rfl ⟨rfl, trivial⟩ ?_
  refine GO_imp (fun o h' hh => ?_) hM
  obtain ⟨v, A2, V2, rfl, rfl, hV, hO, n2, r2, D2, m2, hR⟩ := hh
  refine jBk_ret rfl ⟨rfl, rfl⟩ ?_
  refine R_istore z118_171 (loc' := [some (.ref 9999), some (.ref 0), some (.ref 25), some (.ref 45), some (.int i), some (.int k), some (.int v)]) rfl rfl ?_
  refine R_aload z118_173 rfl ?_
  refine R_cv z118_174 (k := 62) (by decide +kernel) rfl rfl (jfit_mk (by decide +kernel) (show c + 1 + 0 ≤ 1086 by omega) (show s + 6 + 0 ≤ 28528 by omega)) (Nat.le_of_ble_eq_true (by rfl)) rfl ⟨rfl, trivial⟩ ?_
  refine s62 (jBk_ret rfl ⟨rfl, rfl⟩ ?_)
  refine R_iload z118_177 rfl ?_
  refine R_icmp z118_179 (tn := 184) rfl (fun (h179 : ((V2 6) : Int32) = k) => ?_) (fun q => absurd (hV) q)
  refine R_iload z118_184 rfl ?_
  refine R_if z118_186 (tn := 201) rfl (fun (h186 : ¬ (k : Int32) = 0) => ?_) (fun (h186 : ¬ (¬ (k : Int32) = 0)) => ?_)
  · refine R_goto z118_201 (tn := 1303) rfl ?_
    exact GO_drop 5 (GO_drop 6 (hK A2 V2 O1 n2 r2 D2 m2 hR))
  · refine R_aload z118_189 rfl ?_
    refine R_iconst z118_190 (v := 0) (by decide) ?_
    refine R_lld z118_191 (n := 1) (f := O1) (v := O1 0) rfl (show vp_in (nI 0) 1 from nin (by decide) (by decide)) rfl ?_
    refine R_iload z118_192 rfl ?_
    refine R_i2l z118_194 ?_
    refine R_lcmp z118_195 ?_
    refine R_if z118_196 (tn := 201) rfl (fun (h196 : ((lg_cmp (O1 0) (v).toInt64) : Int32) = 0) => ?_) (fun q => absurd (lgc (hO (Classical.byContradiction h186))) q)
    refine R_goto z118_201 (tn := 1303) rfl ?_
    exact GO_drop 5 (GO_drop 6 (hK A2 V2 O1 n2 r2 D2 m2 hR))
theorem w101 {l : Launch} {E : jEnv} {A : Nat → Nat → Int32} {V : Nat → Int32} {O : Nat → Int64} {Q : jO → List jC → Prop} {c s : Nat} {i : Int32} (hS : sIn E i) (hc : c ≤ 1080) (hs : s ≤ 28500) (hH : GO l E 101 0 [some (.ref 0), some (.int (E.2.2.2.2.2.2 (i + 1).toNatClampNeg)), some (.int (E.2.2.2.2.2.2 (i + 2).toNatClampNeg)), none] [] (hp A V O) 0 0 (jHP l E 69 [some (.ref 25), some (.int (E.2.2.2.2.2.2 (i + 1).toNatClampNeg)), some (.int (E.2.2.2.2.2.2 (i + 2).toNatClampNeg)), none] jMN)) (hK : ∀ (A : Nat → Nat → Int32) (V : Nat → Int32) (O : Nat → Int64) (n r D m : Nat), Rel A V n r D m → GO l E 118 1303 [some (.ref 9999), some (.ref 0), some (.ref 25), some (.ref 45), some (.int i), none, none] [] (hp A V O) (c + 1) (s + 6) Q) : GO l E 118 204 [some (.ref 9999), some (.ref 0), some (.ref 25), some (.ref 45), some (.int i), none, none] [] (hp A V O) c s Q := by
  refine R_aload z118_204 rfl ?_
  refine R_aload z118_205 rfl ?_
  refine R_iload z118_206 rfl ?_
  refine R_iconst z118_208 (v := 1) (by decide) ?_
  refine R_iadd z118_209 ?_
  refine R_sld z118_210 (hS.1) ?_
  refine R_aload z118_211 rfl ?_
  refine R_iload z118_212 rfl ?_
  refine R_iconst z118_214 (v := 2) (by decide) ?_
  refine R_iadd z118_215 ?_
  refine R_sld z118_216 (hS.2.1) ?_
  refine R_cs z118_217 (k := 101) (kind := 6) (by decide +kernel) (by decide) rfl rfl (jfit_mk (by decide +kernel) (show c + 1 ≤ 1086 by omega) (show s + 6 ≤ 28528 by omega)) (Nat.le_of_ble_eq_true (by rfl)) rfl ?_
  refine GO_imp (fun o h' hh => ?_) hH
  obtain ⟨k, A1, V1, O1, rfl, rfl, hM⟩ := hh
  refine jBk_retw (Or.inl rfl) (c' := c + 1) (s' := s + 6) rfl rfl ?_
  refine R_istore z118_220 (loc' := [some (.ref 9999), some (.ref 0), some (.ref 25), some (.ref 45), some (.int i), some (.int k), none]) rfl rfl ?_
  refine R_aload z118_222 rfl ?_
  refine R_aload z118_223 rfl ?_
  refine R_iload z118_224 rfl ?_
  refine R_iconst z118_226 (v := 1) (by decide) ?_
  refine R_iadd z118_227 ?_
  refine R_sld z118_228 (hS.1) ?_
  refine R_aload z118_229 rfl ?_
  refine R_iload z118_230 rfl ?_
  refine R_iconst z118_232 (v := 2) (by decide) ?_
  refine R_iadd z118_233 ?_
  refine R_sld z118_234 (hS.2.1) ?_
  refine R_cv z118_235 (k := 69) (by decide +kernel) rfl rfl (jfit_mk (by decide +kernel) (show c + 1 + 0 ≤ 1086 by omega) (show s + 6 + 0 ≤ 28528 by omega)) (Nat.le_of_ble_eq_true (by rfl)) rfl ⟨rfl, trivial⟩ ?_
  refine GO_imp (fun o h' hh => ?_) hM
  obtain ⟨A2, V2, rfl, rfl, hV, n2, r2, D2, m2, hR⟩ := hh
  refine jBk_ret rfl ⟨rfl, rfl⟩ ?_
  refine R_aload z118_238 rfl ?_
  refine R_cv z118_239 (k := 62) (by decide +kernel) rfl rfl (jfit_mk (by decide +kernel) (show c + 1 + 0 ≤ 1086 by omega) (show s + 6 + 0 ≤ 28528 by omega)) (Nat.le_of_ble_eq_true (by rfl)) rfl ⟨rfl, trivial⟩ ?_
  refine s62 (jBk_ret rfl ⟨rfl, rfl⟩ ?_)
  refine R_iload z118_242 rfl ?_
  refine R_icmp z118_244 (tn := 249) rfl (fun (h244 : ((V2 6) : Int32) = k) => ?_) (fun q => absurd (hV) q)
  refine R_goto z118_249 (tn := 1303) rfl ?_
  exact GO_drop 5 (GO_drop 6 (hK A2 V2 O1 n2 r2 D2 m2 hR))
theorem w102 {l : Launch} {E : jEnv} {A : Nat → Nat → Int32} {V : Nat → Int32} {O : Nat → Int64} {Q : jO → List jC → Prop} {c s : Nat} {i : Int32} (hS : sIn E i) (hc : c ≤ 1080) (hs : s ≤ 28500) (hH : GO l E 102 0 [some (.ref 0), some (.int (E.2.2.2.2.2.2 (i + 1).toNatClampNeg)), none] [] (hp A V O) 0 0 (jHP l E 70 [some (.ref 25), some (.int (E.2.2.2.2.2.2 (i + 1).toNatClampNeg))] jMN)) (hK : ∀ (A : Nat → Nat → Int32) (V : Nat → Int32) (O : Nat → Int64) (n r D m : Nat), Rel A V n r D m → GO l E 118 1303 [some (.ref 9999), some (.ref 0), some (.ref 25), some (.ref 45), some (.int i), none, none] [] (hp A V O) (c + 1) (s + 6) Q) : GO l E 118 252 [some (.ref 9999), some (.ref 0), some (.ref 25), some (.ref 45), some (.int i), none, none] [] (hp A V O) c s Q := by
  refine R_aload z118_252 rfl ?_
  refine R_aload z118_253 rfl ?_
  refine R_iload z118_254 rfl ?_
  refine R_iconst z118_256 (v := 1) (by decide) ?_
  refine R_iadd z118_257 ?_
  refine R_sld z118_258 (hS.1) ?_
  refine R_cs z118_259 (k := 102) (kind := 6) (by decide +kernel) (by decide) rfl rfl (jfit_mk (by decide +kernel) (show c + 1 ≤ 1086 by omega) (show s + 6 ≤ 28528 by omega)) (Nat.le_of_ble_eq_true (by rfl)) rfl ?_
  refine GO_imp (fun o h' hh => ?_) hH
  obtain ⟨k, A1, V1, O1, rfl, rfl, hM⟩ := hh
  refine jBk_retw (Or.inl rfl) (c' := c + 1) (s' := s + 6) rfl rfl ?_
  refine R_istore z118_262 (loc' := [some (.ref 9999), some (.ref 0), some (.ref 25), some (.ref 45), some (.int i), some (.int k), none]) rfl rfl ?_
  refine R_aload z118_264 rfl ?_
  refine R_aload z118_265 rfl ?_
  refine R_iload z118_266 rfl ?_
  refine R_iconst z118_268 (v := 1) (by decide) ?_
  refine R_iadd z118_269 ?_
  refine R_sld z118_270 (hS.1) ?_
  refine R_cv z118_271 (k := 70) (by decide +kernel) rfl rfl (jfit_mk (by decide +kernel) (show c + 1 + 0 ≤ 1086 by omega) (show s + 6 + 0 ≤ 28528 by omega)) (Nat.le_of_ble_eq_true (by rfl)) rfl ⟨rfl, trivial⟩ ?_
  refine GO_imp (fun o h' hh => ?_) hM
  obtain ⟨A2, V2, rfl, rfl, hV, n2, r2, D2, m2, hR⟩ := hh
  refine jBk_ret rfl ⟨rfl, rfl⟩ ?_
  refine R_aload z118_274 rfl ?_
  refine R_cv z118_275 (k := 62) (by decide +kernel) rfl rfl (jfit_mk (by decide +kernel) (show c + 1 + 0 ≤ 1086 by omega) (show s + 6 + 0 ≤ 28528 by omega)) (Nat.le_of_ble_eq_true (by rfl)) rfl ⟨rfl, trivial⟩ ?_
  refine s62 (jBk_ret rfl ⟨rfl, rfl⟩ ?_)
  refine R_iload z118_278 rfl ?_
  refine R_icmp z118_280 (tn := 285) rfl (fun (h280 : ((V2 6) : Int32) = k) => ?_) (fun q => absurd (hV) q)
  refine R_goto z118_285 (tn := 1303) rfl ?_
  exact GO_drop 5 (GO_drop 6 (hK A2 V2 O1 n2 r2 D2 m2 hR))
theorem w103 {l : Launch} {E : jEnv} {A : Nat → Nat → Int32} {V : Nat → Int32} {O : Nat → Int64} {Q : jO → List jC → Prop} {c s : Nat} {i : Int32} (hS : sIn E i) (hc : c ≤ 1080) (hs : s ≤ 28500) (hH : GO l E 103 0 [some (.ref 0), some (.int (E.2.2.2.2.2.2 (i + 1).toNatClampNeg)), none] [] (hp A V O) 0 0 (jHP l E 71 [some (.ref 25), some (.int (E.2.2.2.2.2.2 (i + 1).toNatClampNeg))] jMN)) (hK : ∀ (A : Nat → Nat → Int32) (V : Nat → Int32) (O : Nat → Int64) (n r D m : Nat), Rel A V n r D m → GO l E 118 1303 [some (.ref 9999), some (.ref 0), some (.ref 25), some (.ref 45), some (.int i), none, none] [] (hp A V O) (c + 1) (s + 6) Q) : GO l E 118 288 [some (.ref 9999), some (.ref 0), some (.ref 25), some (.ref 45), some (.int i), none, none] [] (hp A V O) c s Q := by
  refine R_aload z118_288 rfl ?_
  refine R_aload z118_289 rfl ?_
  refine R_iload z118_290 rfl ?_
  refine R_iconst z118_292 (v := 1) (by decide) ?_
  refine R_iadd z118_293 ?_
  refine R_sld z118_294 (hS.1) ?_
  refine R_cs z118_295 (k := 103) (kind := 6) (by decide +kernel) (by decide) rfl rfl (jfit_mk (by decide +kernel) (show c + 1 ≤ 1086 by omega) (show s + 6 ≤ 28528 by omega)) (Nat.le_of_ble_eq_true (by rfl)) rfl ?_
  refine GO_imp (fun o h' hh => ?_) hH
  obtain ⟨k, A1, V1, O1, rfl, rfl, hM⟩ := hh
  refine jBk_retw (Or.inl rfl) (c' := c + 1) (s' := s + 6) rfl rfl ?_
  refine R_istore z118_298 (loc' := [some (.ref 9999), some (.ref 0), some (.ref 25), some (.ref 45), some (.int i), some (.int k), none]) rfl rfl ?_
  refine R_aload z118_300 rfl ?_
  refine R_aload z118_301 rfl ?_
  refine R_iload z118_302 rfl ?_
  refine R_iconst z118_304 (v := 1) (by decide) ?_
  refine R_iadd z118_305 ?_
  refine R_sld z118_306 (hS.1) ?_
  refine R_cv z118_307 (k := 71) (by decide +kernel) rfl rfl (jfit_mk (by decide +kernel) (show c + 1 + 0 ≤ 1086 by omega) (show s + 6 + 0 ≤ 28528 by omega)) (Nat.le_of_ble_eq_true (by rfl)) rfl ⟨rfl, trivial⟩ ?_
  refine GO_imp (fun o h' hh => ?_) hM
  obtain ⟨A2, V2, rfl, rfl, hV, n2, r2, D2, m2, hR⟩ := hh
  refine jBk_ret rfl ⟨rfl, rfl⟩ ?_
  refine R_aload z118_310 rfl ?_
  refine R_cv z118_311 (k := 62) (by decide +kernel) rfl rfl (jfit_mk (by decide +kernel) (show c + 1 + 0 ≤ 1086 by omega) (show s + 6 + 0 ≤ 28528 by omega)) (Nat.le_of_ble_eq_true (by rfl)) rfl ⟨rfl, trivial⟩ ?_
  refine s62 (jBk_ret rfl ⟨rfl, rfl⟩ ?_)
  refine R_iload z118_314 rfl ?_
  refine R_icmp z118_316 (tn := 321) rfl (fun (h316 : ((V2 6) : Int32) = k) => ?_) (fun q => absurd (hV) q)
  refine R_goto z118_321 (tn := 1303) rfl ?_
  exact GO_drop 5 (GO_drop 6 (hK A2 V2 O1 n2 r2 D2 m2 hR))
theorem w104 {l : Launch} {E : jEnv} {A : Nat → Nat → Int32} {V : Nat → Int32} {O : Nat → Int64} {Q : jO → List jC → Prop} {c s : Nat} {i : Int32} (hS : sIn E i) (hc : c ≤ 1080) (hs : s ≤ 28500) (hH : GO l E 104 0 [some (.ref 0), some (.int (E.2.2.2.2.2.2 (i + 1).toNatClampNeg)), some (.int (E.2.2.2.2.2.2 (i + 2).toNatClampNeg)), none] [] (hp A V O) 0 0 (jHP l E 72 [some (.ref 25), some (.int (E.2.2.2.2.2.2 (i + 1).toNatClampNeg)), some (.int (E.2.2.2.2.2.2 (i + 2).toNatClampNeg))] jMN)) (hK : ∀ (A : Nat → Nat → Int32) (V : Nat → Int32) (O : Nat → Int64) (n r D m : Nat), Rel A V n r D m → GO l E 118 1303 [some (.ref 9999), some (.ref 0), some (.ref 25), some (.ref 45), some (.int i), none, none] [] (hp A V O) (c + 1) (s + 6) Q) : GO l E 118 324 [some (.ref 9999), some (.ref 0), some (.ref 25), some (.ref 45), some (.int i), none, none] [] (hp A V O) c s Q := by
  refine R_aload z118_324 rfl ?_
  refine R_aload z118_325 rfl ?_
  refine R_iload z118_326 rfl ?_
  refine R_iconst z118_328 (v := 1) (by decide) ?_
  refine R_iadd z118_329 ?_
  refine R_sld z118_330 (hS.1) ?_
  refine R_aload z118_331 rfl ?_
  refine R_iload z118_332 rfl ?_
  refine R_iconst z118_334 (v := 2) (by decide) ?_
  refine R_iadd z118_335 ?_
  refine R_sld z118_336 (hS.2.1) ?_
  refine R_cs z118_337 (k := 104) (kind := 6) (by decide +kernel) (by decide) rfl rfl (jfit_mk (by decide +kernel) (show c + 1 ≤ 1086 by omega) (show s + 6 ≤ 28528 by omega)) (Nat.le_of_ble_eq_true (by rfl)) rfl ?_
  refine GO_imp (fun o h' hh => ?_) hH
  obtain ⟨k, A1, V1, O1, rfl, rfl, hM⟩ := hh
  refine jBk_retw (Or.inl rfl) (c' := c + 1) (s' := s + 6) rfl rfl ?_
  refine R_istore z118_340 (loc' := [some (.ref 9999), some (.ref 0), some (.ref 25), some (.ref 45), some (.int i), some (.int k), none]) rfl rfl ?_
  refine R_aload z118_342 rfl ?_
  refine R_aload z118_343 rfl ?_
  refine R_iload z118_344 rfl ?_
  refine R_iconst z118_346 (v := 1) (by decide) ?_
  refine R_iadd z118_347 ?_
  refine R_sld z118_348 (hS.1) ?_
  refine R_aload z118_349 rfl ?_
  refine R_iload z118_350 rfl ?_
  refine R_iconst z118_352 (v := 2) (by decide) ?_
  refine R_iadd z118_353 ?_
  refine R_sld z118_354 (hS.2.1) ?_
  refine R_cv z118_355 (k := 72) (by decide +kernel) rfl rfl (jfit_mk (by decide +kernel) (show c + 1 + 0 ≤ 1086 by omega) (show s + 6 + 0 ≤ 28528 by omega)) (Nat.le_of_ble_eq_true (by rfl)) rfl ⟨rfl, trivial⟩ ?_
  refine GO_imp (fun o h' hh => ?_) hM
  obtain ⟨A2, V2, rfl, rfl, hV, n2, r2, D2, m2, hR⟩ := hh
  refine jBk_ret rfl ⟨rfl, rfl⟩ ?_
  refine R_aload z118_358 rfl ?_
  refine R_cv z118_359 (k := 62) (by decide +kernel) rfl rfl (jfit_mk (by decide +kernel) (show c + 1 + 0 ≤ 1086 by omega) (show s + 6 + 0 ≤ 28528 by omega)) (Nat.le_of_ble_eq_true (by rfl)) rfl ⟨rfl, trivial⟩ ?_
  refine s62 (jBk_ret rfl ⟨rfl, rfl⟩ ?_)
  refine R_iload z118_362 rfl ?_
  refine R_icmp z118_364 (tn := 369) rfl (fun (h364 : ((V2 6) : Int32) = k) => ?_) (fun q => absurd (hV) q)
  refine R_goto z118_369 (tn := 1303) rfl ?_
  exact GO_drop 5 (GO_drop 6 (hK A2 V2 O1 n2 r2 D2 m2 hR))
theorem w105 {l : Launch} {E : jEnv} {A : Nat → Nat → Int32} {V : Nat → Int32} {O : Nat → Int64} {Q : jO → List jC → Prop} {c s : Nat} {i : Int32} (hS : sIn E i) (hc : c ≤ 1080) (hs : s ≤ 28500) (hH : GO l E 105 0 [some (.ref 0), some (.int (E.2.2.2.2.2.2 (i + 1).toNatClampNeg)), some (.int (E.2.2.2.2.2.2 (i + 2).toNatClampNeg)), some (.int (E.2.2.2.2.2.2 (i + 3).toNatClampNeg)), some (.ref 45), none] [] (hp A V O) 0 0 (jHP l E 82 [some (.ref 25), some (.int (E.2.2.2.2.2.2 (i + 1).toNatClampNeg)), some (.int (E.2.2.2.2.2.2 (i + 2).toNatClampNeg)), some (.int (E.2.2.2.2.2.2 (i + 3).toNatClampNeg)), none, none] jMP)) (hK : ∀ (A : Nat → Nat → Int32) (V : Nat → Int32) (O : Nat → Int64) (n r D m : Nat), Rel A V n r D m → GO l E 118 1303 [some (.ref 9999), some (.ref 0), some (.ref 25), some (.ref 45), some (.int i), none, none] [] (hp A V O) (c + 1) (s + 6) Q) : GO l E 118 372 [some (.ref 9999), some (.ref 0), some (.ref 25), some (.ref 45), some (.int i), none, none] [] (hp A V O) c s Q := by
  refine R_aload z118_372 rfl ?_
  refine R_aload z118_373 rfl ?_
  refine R_iload z118_374 rfl ?_
  refine R_iconst z118_376 (v := 1) (by decide) ?_
  refine R_iadd z118_377 ?_
  refine R_sld z118_378 (hS.1) ?_
  refine R_aload z118_379 rfl ?_
  refine R_iload z118_380 rfl ?_
  refine R_iconst z118_382 (v := 2) (by decide) ?_
  refine R_iadd z118_383 ?_
  refine R_sld z118_384 (hS.2.1) ?_
  refine R_aload z118_385 rfl ?_
  refine R_iload z118_386 rfl ?_
  refine R_iconst z118_388 (v := 3) (by decide) ?_
  refine R_iadd z118_389 ?_
  refine R_sld z118_390 (hS.2.2.1) ?_
  refine R_aload z118_391 rfl ?_
  refine R_cs z118_392 (k := 105) (kind := 6) (by decide +kernel) (by decide) rfl rfl (jfit_mk (by decide +kernel) (show c + 1 ≤ 1086 by omega) (show s + 6 ≤ 28528 by omega)) (Nat.le_of_ble_eq_true (by rfl)) rfl ?_
  refine GO_imp (fun o h' hh => ?_) hH
  obtain ⟨k, A1, V1, O1, rfl, rfl, hM⟩ := hh
  refine jBk_retw (Or.inl rfl) (c' := c + 1) (s' := s + 6) rfl rfl ?_
  refine R_istore z118_395 (loc' := [some (.ref 9999), some (.ref 0), some (.ref 25), some (.ref 45), some (.int i), some (.int k), none]) rfl rfl ?_
  refine R_aload z118_397 rfl ?_
  refine R_aload z118_398 rfl ?_
  refine R_iload z118_399 rfl ?_
  refine R_iconst z118_401 (v := 1) (by decide) ?_
  refine R_iadd z118_402 ?_
  refine R_sld z118_403 (hS.1) ?_
  refine R_aload z118_404 rfl ?_
  refine R_iload z118_405 rfl ?_
  refine R_iconst z118_407 (v := 2) (by decide) ?_
  refine R_iadd z118_408 ?_
  refine R_sld z118_409 (hS.2.1) ?_
  refine R_aload z118_410 rfl ?_
  refine R_iload z118_411 rfl ?_
  refine R_iconst z118_413 (v := 3) (by decide) ?_
  refine R_iadd z118_414 ?_
  refine R_sld z118_415 (hS.2.2.1) ?_
  refine R_cv z118_416 (k := 82) (by decide +kernel) rfl rfl (jfit_mk (by decide +kernel) (show c + 1 + 0 ≤ 1086 by omega) (show s + 6 + 0 ≤ 28528 by omega)) (Nat.le_of_ble_eq_true (by rfl)) rfl ⟨rfl, trivial⟩ ?_
  refine GO_imp (fun o h' hh => ?_) hM
  obtain ⟨v, A2, V2, rfl, rfl, hV, hO, n2, r2, D2, m2, hR⟩ := hh
  refine jBk_ret rfl ⟨rfl, rfl⟩ ?_
  refine R_istore z118_419 (loc' := [some (.ref 9999), some (.ref 0), some (.ref 25), some (.ref 45), some (.int i), some (.int k), some (.int v)]) rfl rfl ?_
  refine R_aload z118_421 rfl ?_
  refine R_cv z118_422 (k := 62) (by decide +kernel) rfl rfl (jfit_mk (by decide +kernel) (show c + 1 + 0 ≤ 1086 by omega) (show s + 6 + 0 ≤ 28528 by omega)) (Nat.le_of_ble_eq_true (by rfl)) rfl ⟨rfl, trivial⟩ ?_
  refine s62 (jBk_ret rfl ⟨rfl, rfl⟩ ?_)
  refine R_iload z118_425 rfl ?_
  refine R_icmp z118_427 (tn := 432) rfl (fun (h427 : ((V2 6) : Int32) = k) => ?_) (fun q => absurd (hV) q)
  refine R_iload z118_432 rfl ?_
  refine R_if z118_434 (tn := 449) rfl (fun (h434 : ¬ (k : Int32) = 0) => ?_) (fun (h434 : ¬ (¬ (k : Int32) = 0)) => ?_)
  · refine R_goto z118_449 (tn := 1303) rfl ?_
    exact GO_drop 5 (GO_drop 6 (hK A2 V2 O1 n2 r2 D2 m2 hR))
  · refine R_aload z118_437 rfl ?_
    refine R_iconst z118_438 (v := 0) (by decide) ?_
    refine R_lld z118_439 (n := 1) (f := O1) (v := O1 0) rfl (show vp_in (nI 0) 1 from nin (by decide) (by decide)) rfl ?_
    refine R_iload z118_440 rfl ?_
    refine R_i2l z118_442 ?_
    refine R_lcmp z118_443 ?_
    refine R_if z118_444 (tn := 449) rfl (fun (h444 : ((lg_cmp (O1 0) (v).toInt64) : Int32) = 0) => ?_) (fun q => absurd (lgc (hO (Classical.byContradiction h434))) q)
    refine R_goto z118_449 (tn := 1303) rfl ?_
    exact GO_drop 5 (GO_drop 6 (hK A2 V2 O1 n2 r2 D2 m2 hR))
theorem w106 {l : Launch} {E : jEnv} {A : Nat → Nat → Int32} {V : Nat → Int32} {O : Nat → Int64} {Q : jO → List jC → Prop} {c s : Nat} {i : Int32} (hS : sIn E i) (hc : c ≤ 1080) (hs : s ≤ 28500) (hH : GO l E 106 0 [some (.ref 0), some (.int (E.2.2.2.2.2.2 (i + 1).toNatClampNeg)), some (.int (E.2.2.2.2.2.2 (i + 2).toNatClampNeg)), some (.ref 45), none] [] (hp A V O) 0 0 (jHP l E 83 [some (.ref 25), some (.int (E.2.2.2.2.2.2 (i + 1).toNatClampNeg)), some (.int (E.2.2.2.2.2.2 (i + 2).toNatClampNeg)), none, none, none] jMP)) (hK : ∀ (A : Nat → Nat → Int32) (V : Nat → Int32) (O : Nat → Int64) (n r D m : Nat), Rel A V n r D m → GO l E 118 1303 [some (.ref 9999), some (.ref 0), some (.ref 25), some (.ref 45), some (.int i), none, none] [] (hp A V O) (c + 1) (s + 6) Q) : GO l E 118 452 [some (.ref 9999), some (.ref 0), some (.ref 25), some (.ref 45), some (.int i), none, none] [] (hp A V O) c s Q := by
  refine R_aload z118_452 rfl ?_
  refine R_aload z118_453 rfl ?_
  refine R_iload z118_454 rfl ?_
  refine R_iconst z118_456 (v := 1) (by decide) ?_
  refine R_iadd z118_457 ?_
  refine R_sld z118_458 (hS.1) ?_
  refine R_aload z118_459 rfl ?_
  refine R_iload z118_460 rfl ?_
  refine R_iconst z118_462 (v := 2) (by decide) ?_
  refine R_iadd z118_463 ?_
  refine R_sld z118_464 (hS.2.1) ?_
  refine R_aload z118_465 rfl ?_
  refine R_cs z118_466 (k := 106) (kind := 6) (by decide +kernel) (by decide) rfl rfl (jfit_mk (by decide +kernel) (show c + 1 ≤ 1086 by omega) (show s + 6 ≤ 28528 by omega)) (Nat.le_of_ble_eq_true (by rfl)) rfl ?_
  refine GO_imp (fun o h' hh => ?_) hH
  obtain ⟨k, A1, V1, O1, rfl, rfl, hM⟩ := hh
  refine jBk_retw (Or.inl rfl) (c' := c + 1) (s' := s + 6) rfl rfl ?_
  refine R_istore z118_469 (loc' := [some (.ref 9999), some (.ref 0), some (.ref 25), some (.ref 45), some (.int i), some (.int k), none]) rfl rfl ?_
  refine R_aload z118_471 rfl ?_
  refine R_aload z118_472 rfl ?_
  refine R_iload z118_473 rfl ?_
  refine R_iconst z118_475 (v := 1) (by decide) ?_
  refine R_iadd z118_476 ?_
  refine R_sld z118_477 (hS.1) ?_
  refine R_aload z118_478 rfl ?_
  refine R_iload z118_479 rfl ?_
  refine R_iconst z118_481 (v := 2) (by decide) ?_
  refine R_iadd z118_482 ?_
  refine R_sld z118_483 (hS.2.1) ?_
  refine R_cv z118_484 (k := 83) (by decide +kernel) rfl rfl (jfit_mk (by decide +kernel) (show c + 1 + 0 ≤ 1086 by omega) (show s + 6 + 0 ≤ 28528 by omega)) (Nat.le_of_ble_eq_true (by rfl)) rfl ⟨rfl, trivial⟩ ?_
  refine GO_imp (fun o h' hh => ?_) hM
  obtain ⟨v, A2, V2, rfl, rfl, hV, hO, n2, r2, D2, m2, hR⟩ := hh
  refine jBk_ret rfl ⟨rfl, rfl⟩ ?_
  refine R_istore z118_487 (loc' := [some (.ref 9999), some (.ref 0), some (.ref 25), some (.ref 45), some (.int i), some (.int k), some (.int v)]) rfl rfl ?_
  refine R_aload z118_489 rfl ?_
  refine R_cv z118_490 (k := 62) (by decide +kernel) rfl rfl (jfit_mk (by decide +kernel) (show c + 1 + 0 ≤ 1086 by omega) (show s + 6 + 0 ≤ 28528 by omega)) (Nat.le_of_ble_eq_true (by rfl)) rfl ⟨rfl, trivial⟩ ?_
  refine s62 (jBk_ret rfl ⟨rfl, rfl⟩ ?_)
  refine R_iload z118_493 rfl ?_
  refine R_icmp z118_495 (tn := 500) rfl (fun (h495 : ((V2 6) : Int32) = k) => ?_) (fun q => absurd (hV) q)
  refine R_iload z118_500 rfl ?_
  refine R_if z118_502 (tn := 517) rfl (fun (h502 : ¬ (k : Int32) = 0) => ?_) (fun (h502 : ¬ (¬ (k : Int32) = 0)) => ?_)
  · refine R_goto z118_517 (tn := 1303) rfl ?_
    exact GO_drop 5 (GO_drop 6 (hK A2 V2 O1 n2 r2 D2 m2 hR))
  · refine R_aload z118_505 rfl ?_
    refine R_iconst z118_506 (v := 0) (by decide) ?_
    refine R_lld z118_507 (n := 1) (f := O1) (v := O1 0) rfl (show vp_in (nI 0) 1 from nin (by decide) (by decide)) rfl ?_
    refine R_iload z118_508 rfl ?_
    refine R_i2l z118_510 ?_
    refine R_lcmp z118_511 ?_
    refine R_if z118_512 (tn := 517) rfl (fun (h512 : ((lg_cmp (O1 0) (v).toInt64) : Int32) = 0) => ?_) (fun q => absurd (lgc (hO (Classical.byContradiction h502))) q)
    refine R_goto z118_517 (tn := 1303) rfl ?_
    exact GO_drop 5 (GO_drop 6 (hK A2 V2 O1 n2 r2 D2 m2 hR))
theorem w107_0 {l : Launch} {E : jEnv} {A : Nat → Nat → Int32} {V : Nat → Int32} {O : Nat → Int64} {Q : jO → List jC → Prop} {c s : Nat} {i : Int32} (hS : sIn E i) (hc : c ≤ 1080) (hs : s ≤ 28500) (h3 : E.2.2.2.2.2.2 (i + 3).toNatClampNeg = 0) (hH : GO l E 107 0 [some (.ref 0), some (.int (E.2.2.2.2.2.2 (i + 1).toNatClampNeg)), some (.int (E.2.2.2.2.2.2 (i + 2).toNatClampNeg)), some (.int 0), none] [] (hp A V O) 0 0 (jHP l E 84 [some (.ref 25), some (.int (E.2.2.2.2.2.2 (i + 1).toNatClampNeg)), some (.int (E.2.2.2.2.2.2 (i + 2).toNatClampNeg)), some (.int 0), none] jMN)) (hK : ∀ (A : Nat → Nat → Int32) (V : Nat → Int32) (O : Nat → Int64) (n r D m : Nat), Rel A V n r D m → GO l E 118 1303 [some (.ref 9999), some (.ref 0), some (.ref 25), some (.ref 45), some (.int i), none, none] [] (hp A V O) (c + 1) (s + 6) Q) : GO l E 118 520 [some (.ref 9999), some (.ref 0), some (.ref 25), some (.ref 45), some (.int i), none, none] [] (hp A V O) c s Q := by
  refine R_aload z118_520 rfl ?_
  refine R_aload z118_521 rfl ?_
  refine R_iload z118_522 rfl ?_
  refine R_iconst z118_524 (v := 1) (by decide) ?_
  refine R_iadd z118_525 ?_
  refine R_sld z118_526 (hS.1) ?_
  refine R_aload z118_527 rfl ?_
  refine R_iload z118_528 rfl ?_
  refine R_iconst z118_530 (v := 2) (by decide) ?_
  refine R_iadd z118_531 ?_
  refine R_sld z118_532 (hS.2.1) ?_
  refine R_aload z118_533 rfl ?_
  refine R_iload z118_534 rfl ?_
  refine R_iconst z118_536 (v := 3) (by decide) ?_
  refine R_iadd z118_537 ?_
  refine R_sld z118_538 (hS.2.2.1) ?_
  refine R_if z118_539 (tn := 546) rfl (fun (h539 : ((E.2.2.2.2.2.2 ((i + 3)).toNatClampNeg) : Int32) = 0) => ?_) (fun q => absurd (h3) q)
  refine R_iconst z118_546 (v := 0) (by decide) ?_
  refine R_cs z118_547 (k := 107) (kind := 6) (by decide +kernel) (by decide) rfl rfl (jfit_mk (by decide +kernel) (show c + 1 ≤ 1086 by omega) (show s + 6 ≤ 28528 by omega)) (Nat.le_of_ble_eq_true (by rfl)) rfl ?_
  refine GO_imp (fun o h' hh => ?_) hH
  obtain ⟨k, A1, V1, O1, rfl, rfl, hM⟩ := hh
  refine jBk_retw (Or.inl rfl) (c' := c + 1) (s' := s + 6) rfl rfl ?_
  refine R_istore z118_550 (loc' := [some (.ref 9999), some (.ref 0), some (.ref 25), some (.ref 45), some (.int i), some (.int k), none]) rfl rfl ?_
  refine R_aload z118_552 rfl ?_
  refine R_aload z118_553 rfl ?_
  refine R_iload z118_554 rfl ?_
  refine R_iconst z118_556 (v := 1) (by decide) ?_
  refine R_iadd z118_557 ?_
  refine R_sld z118_558 (hS.1) ?_
  refine R_aload z118_559 rfl ?_
  refine R_iload z118_560 rfl ?_
  refine R_iconst z118_562 (v := 2) (by decide) ?_
  refine R_iadd z118_563 ?_
  refine R_sld z118_564 (hS.2.1) ?_
  refine R_aload z118_565 rfl ?_
  refine R_iload z118_566 rfl ?_
  refine R_iconst z118_568 (v := 3) (by decide) ?_
  refine R_iadd z118_569 ?_
  refine R_sld z118_570 (hS.2.2.1) ?_
  refine R_if z118_571 (tn := 578) rfl (fun (h571 : ((E.2.2.2.2.2.2 ((i + 3)).toNatClampNeg) : Int32) = 0) => ?_) (fun q => absurd (h3) q)
  refine R_iconst z118_578 (v := 0) (by decide) ?_
  refine R_cv z118_579 (k := 84) (by decide +kernel) rfl rfl (jfit_mk (by decide +kernel) (show c + 1 + 0 ≤ 1086 by omega) (show s + 6 + 0 ≤ 28528 by omega)) (Nat.le_of_ble_eq_true (by rfl)) rfl ⟨rfl, trivial⟩ ?_
  refine GO_imp (fun o h' hh => ?_) hM
  obtain ⟨A2, V2, rfl, rfl, hV, n2, r2, D2, m2, hR⟩ := hh
  refine jBk_ret rfl ⟨rfl, rfl⟩ ?_
  refine R_aload z118_582 rfl ?_
  refine R_cv z118_583 (k := 62) (by decide +kernel) rfl rfl (jfit_mk (by decide +kernel) (show c + 1 + 0 ≤ 1086 by omega) (show s + 6 + 0 ≤ 28528 by omega)) (Nat.le_of_ble_eq_true (by rfl)) rfl ⟨rfl, trivial⟩ ?_
  refine s62 (jBk_ret rfl ⟨rfl, rfl⟩ ?_)
  refine R_iload z118_586 rfl ?_
  refine R_icmp z118_588 (tn := 593) rfl (fun (h588 : ((V2 6) : Int32) = k) => ?_) (fun q => absurd (hV) q)
  refine R_goto z118_593 (tn := 1303) rfl ?_
  exact GO_drop 5 (GO_drop 6 (hK A2 V2 O1 n2 r2 D2 m2 hR))
theorem w107_1 {l : Launch} {E : jEnv} {A : Nat → Nat → Int32} {V : Nat → Int32} {O : Nat → Int64} {Q : jO → List jC → Prop} {c s : Nat} {i : Int32} (hS : sIn E i) (hc : c ≤ 1080) (hs : s ≤ 28500) (h3 : ¬ E.2.2.2.2.2.2 (i + 3).toNatClampNeg = 0) (hH : GO l E 107 0 [some (.ref 0), some (.int (E.2.2.2.2.2.2 (i + 1).toNatClampNeg)), some (.int (E.2.2.2.2.2.2 (i + 2).toNatClampNeg)), some (.int 1), none] [] (hp A V O) 0 0 (jHP l E 84 [some (.ref 25), some (.int (E.2.2.2.2.2.2 (i + 1).toNatClampNeg)), some (.int (E.2.2.2.2.2.2 (i + 2).toNatClampNeg)), some (.int 1), none] jMN)) (hK : ∀ (A : Nat → Nat → Int32) (V : Nat → Int32) (O : Nat → Int64) (n r D m : Nat), Rel A V n r D m → GO l E 118 1303 [some (.ref 9999), some (.ref 0), some (.ref 25), some (.ref 45), some (.int i), none, none] [] (hp A V O) (c + 1) (s + 6) Q) : GO l E 118 520 [some (.ref 9999), some (.ref 0), some (.ref 25), some (.ref 45), some (.int i), none, none] [] (hp A V O) c s Q := by
  refine R_aload z118_520 rfl ?_
  refine R_aload z118_521 rfl ?_
  refine R_iload z118_522 rfl ?_
  refine R_iconst z118_524 (v := 1) (by decide) ?_
  refine R_iadd z118_525 ?_
  refine R_sld z118_526 (hS.1) ?_
  refine R_aload z118_527 rfl ?_
  refine R_iload z118_528 rfl ?_
  refine R_iconst z118_530 (v := 2) (by decide) ?_
  refine R_iadd z118_531 ?_
  refine R_sld z118_532 (hS.2.1) ?_
  refine R_aload z118_533 rfl ?_
  refine R_iload z118_534 rfl ?_
  refine R_iconst z118_536 (v := 3) (by decide) ?_
  refine R_iadd z118_537 ?_
  refine R_sld z118_538 (hS.2.2.1) ?_
  refine R_if z118_539 (tn := 546) rfl (fun q => absurd q (h3)) (fun (h539 : ¬ ((E.2.2.2.2.2.2 ((i + 3)).toNatClampNeg) : Int32) = 0) => ?_)
  refine R_iconst z118_542 (v := 1) (by decide) ?_
  refine R_goto z118_543 (tn := 547) rfl ?_
  refine R_cs z118_547 (k := 107) (kind := 6) (by decide +kernel) (by decide) rfl rfl (jfit_mk (by decide +kernel) (show c + 1 ≤ 1086 by omega) (show s + 6 ≤ 28528 by omega)) (Nat.le_of_ble_eq_true (by rfl)) rfl ?_
  refine GO_imp (fun o h' hh => ?_) hH
  obtain ⟨k, A1, V1, O1, rfl, rfl, hM⟩ := hh
  refine jBk_retw (Or.inl rfl) (c' := c + 1) (s' := s + 6) rfl rfl ?_
  refine R_istore z118_550 (loc' := [some (.ref 9999), some (.ref 0), some (.ref 25), some (.ref 45), some (.int i), some (.int k), none]) rfl rfl ?_
  refine R_aload z118_552 rfl ?_
  refine R_aload z118_553 rfl ?_
  refine R_iload z118_554 rfl ?_
  refine R_iconst z118_556 (v := 1) (by decide) ?_
  refine R_iadd z118_557 ?_
  refine R_sld z118_558 (hS.1) ?_
  refine R_aload z118_559 rfl ?_
  refine R_iload z118_560 rfl ?_
  refine R_iconst z118_562 (v := 2) (by decide) ?_
  refine R_iadd z118_563 ?_
  refine R_sld z118_564 (hS.2.1) ?_
  refine R_aload z118_565 rfl ?_
  refine R_iload z118_566 rfl ?_
  refine R_iconst z118_568 (v := 3) (by decide) ?_
  refine R_iadd z118_569 ?_
  refine R_sld z118_570 (hS.2.2.1) ?_
  refine R_if z118_571 (tn := 578) rfl (fun q => absurd q (h3)) (fun (h571 : ¬ ((E.2.2.2.2.2.2 ((i + 3)).toNatClampNeg) : Int32) = 0) => ?_)
  refine R_iconst z118_574 (v := 1) (by decide) ?_
  refine R_goto z118_575 (tn := 579) rfl ?_
  refine R_cv z118_579 (k := 84) (by decide +kernel) rfl rfl (jfit_mk (by decide +kernel) (show c + 1 + 0 ≤ 1086 by omega) (show s + 6 + 0 ≤ 28528 by omega)) (Nat.le_of_ble_eq_true (by rfl)) rfl ⟨rfl, trivial⟩ ?_
  refine GO_imp (fun o h' hh => ?_) hM
  obtain ⟨A2, V2, rfl, rfl, hV, n2, r2, D2, m2, hR⟩ := hh
  refine jBk_ret rfl ⟨rfl, rfl⟩ ?_
  refine R_aload z118_582 rfl ?_
  refine R_cv z118_583 (k := 62) (by decide +kernel) rfl rfl (jfit_mk (by decide +kernel) (show c + 1 + 0 ≤ 1086 by omega) (show s + 6 + 0 ≤ 28528 by omega)) (Nat.le_of_ble_eq_true (by rfl)) rfl ⟨rfl, trivial⟩ ?_
  refine s62 (jBk_ret rfl ⟨rfl, rfl⟩ ?_)
  refine R_iload z118_586 rfl ?_
  refine R_icmp z118_588 (tn := 593) rfl (fun (h588 : ((V2 6) : Int32) = k) => ?_) (fun q => absurd (hV) q)
  refine R_goto z118_593 (tn := 1303) rfl ?_
  exact GO_drop 5 (GO_drop 6 (hK A2 V2 O1 n2 r2 D2 m2 hR))
theorem w108 {l : Launch} {E : jEnv} {A : Nat → Nat → Int32} {V : Nat → Int32} {O : Nat → Int64} {Q : jO → List jC → Prop} {c s : Nat} {i : Int32} (hS : sIn E i) (hc : c ≤ 1080) (hs : s ≤ 28500) (hH : GO l E 108 0 [some (.ref 0), some (.int (E.2.2.2.2.2.2 (i + 1).toNatClampNeg)), some (.int (E.2.2.2.2.2.2 (i + 2).toNatClampNeg)), some (.ref 45), none] [] (hp A V O) 0 0 (jHP l E 85 [some (.ref 25), some (.int (E.2.2.2.2.2.2 (i + 1).toNatClampNeg)), some (.int (E.2.2.2.2.2.2 (i + 2).toNatClampNeg)), none, none] jMP)) (hK : ∀ (A : Nat → Nat → Int32) (V : Nat → Int32) (O : Nat → Int64) (n r D m : Nat), Rel A V n r D m → GO l E 118 1303 [some (.ref 9999), some (.ref 0), some (.ref 25), some (.ref 45), some (.int i), none, none] [] (hp A V O) (c + 1) (s + 6) Q) : GO l E 118 596 [some (.ref 9999), some (.ref 0), some (.ref 25), some (.ref 45), some (.int i), none, none] [] (hp A V O) c s Q := by
  refine R_aload z118_596 rfl ?_
  refine R_aload z118_597 rfl ?_
  refine R_iload z118_598 rfl ?_
  refine R_iconst z118_600 (v := 1) (by decide) ?_
  refine R_iadd z118_601 ?_
  refine R_sld z118_602 (hS.1) ?_
  refine R_aload z118_603 rfl ?_
  refine R_iload z118_604 rfl ?_
  refine R_iconst z118_606 (v := 2) (by decide) ?_
  refine R_iadd z118_607 ?_
  refine R_sld z118_608 (hS.2.1) ?_
  refine R_aload z118_609 rfl ?_
  refine R_cs z118_610 (k := 108) (kind := 6) (by decide +kernel) (by decide) rfl rfl (jfit_mk (by decide +kernel) (show c + 1 ≤ 1086 by omega) (show s + 6 ≤ 28528 by omega)) (Nat.le_of_ble_eq_true (by rfl)) rfl ?_
  refine GO_imp (fun o h' hh => ?_) hH
  obtain ⟨k, A1, V1, O1, rfl, rfl, hM⟩ := hh
  refine jBk_retw (Or.inl rfl) (c' := c + 1) (s' := s + 6) rfl rfl ?_
  refine R_istore z118_613 (loc' := [some (.ref 9999), some (.ref 0), some (.ref 25), some (.ref 45), some (.int i), some (.int k), none]) rfl rfl ?_
  refine R_aload z118_615 rfl ?_
  refine R_aload z118_616 rfl ?_
  refine R_iload z118_617 rfl ?_
  refine R_iconst z118_619 (v := 1) (by decide) ?_
  refine R_iadd z118_620 ?_
  refine R_sld z118_621 (hS.1) ?_
  refine R_aload z118_622 rfl ?_
  refine R_iload z118_623 rfl ?_
  refine R_iconst z118_625 (v := 2) (by decide) ?_
  refine R_iadd z118_626 ?_
  refine R_sld z118_627 (hS.2.1) ?_
  refine R_cv z118_628 (k := 85) (by decide +kernel) rfl rfl (jfit_mk (by decide +kernel) (show c + 1 + 0 ≤ 1086 by omega) (show s + 6 + 0 ≤ 28528 by omega)) (Nat.le_of_ble_eq_true (by rfl)) rfl ⟨rfl, trivial⟩ ?_
  refine GO_imp (fun o h' hh => ?_) hM
  obtain ⟨v, A2, V2, rfl, rfl, hV, hO, n2, r2, D2, m2, hR⟩ := hh
  refine jBk_ret rfl ⟨rfl, rfl⟩ ?_
  refine R_istore z118_631 (loc' := [some (.ref 9999), some (.ref 0), some (.ref 25), some (.ref 45), some (.int i), some (.int k), some (.int v)]) rfl rfl ?_
  refine R_aload z118_633 rfl ?_
  refine R_cv z118_634 (k := 62) (by decide +kernel) rfl rfl (jfit_mk (by decide +kernel) (show c + 1 + 0 ≤ 1086 by omega) (show s + 6 + 0 ≤ 28528 by omega)) (Nat.le_of_ble_eq_true (by rfl)) rfl ⟨rfl, trivial⟩ ?_
  refine s62 (jBk_ret rfl ⟨rfl, rfl⟩ ?_)
  refine R_iload z118_637 rfl ?_
  refine R_icmp z118_639 (tn := 644) rfl (fun (h639 : ((V2 6) : Int32) = k) => ?_) (fun q => absurd (hV) q)
  refine R_iload z118_644 rfl ?_
  refine R_if z118_646 (tn := 661) rfl (fun (h646 : ¬ (k : Int32) = 0) => ?_) (fun (h646 : ¬ (¬ (k : Int32) = 0)) => ?_)
  · refine R_goto z118_661 (tn := 1303) rfl ?_
    exact GO_drop 5 (GO_drop 6 (hK A2 V2 O1 n2 r2 D2 m2 hR))
  · refine R_aload z118_649 rfl ?_
    refine R_iconst z118_650 (v := 0) (by decide) ?_
    refine R_lld z118_651 (n := 1) (f := O1) (v := O1 0) rfl (show vp_in (nI 0) 1 from nin (by decide) (by decide)) rfl ?_
    refine R_iload z118_652 rfl ?_
    refine R_i2l z118_654 ?_
    refine R_lcmp z118_655 ?_
    refine R_if z118_656 (tn := 661) rfl (fun (h656 : ((lg_cmp (O1 0) (v).toInt64) : Int32) = 0) => ?_) (fun q => absurd (lgc (hO (Classical.byContradiction h646))) q)
    refine R_goto z118_661 (tn := 1303) rfl ?_
    exact GO_drop 5 (GO_drop 6 (hK A2 V2 O1 n2 r2 D2 m2 hR))
theorem w109 {l : Launch} {E : jEnv} {A : Nat → Nat → Int32} {V : Nat → Int32} {O : Nat → Int64} {Q : jO → List jC → Prop} {c s : Nat} {i : Int32} (hS : sIn E i) (hc : c ≤ 1080) (hs : s ≤ 28500) (hH : GO l E 109 0 [some (.ref 0), some (.int (E.2.2.2.2.2.2 (i + 1).toNatClampNeg)), some (.int (E.2.2.2.2.2.2 (i + 2).toNatClampNeg)), some (.int (E.2.2.2.2.2.2 (i + 3).toNatClampNeg)), some (.ref 45), none] [] (hp A V O) 0 0 (jHP l E 86 [some (.ref 25), some (.int (E.2.2.2.2.2.2 (i + 1).toNatClampNeg)), some (.int (E.2.2.2.2.2.2 (i + 2).toNatClampNeg)), some (.int (E.2.2.2.2.2.2 (i + 3).toNatClampNeg))] jMH)) (hK : ∀ (A : Nat → Nat → Int32) (V : Nat → Int32) (O : Nat → Int64) (n r D m : Nat), Rel A V n r D m → GO l E 118 1303 [some (.ref 9999), some (.ref 0), some (.ref 25), some (.ref 45), some (.int i), none, none] [] (hp A V O) (c + 1) (s + 6) Q) : GO l E 118 664 [some (.ref 9999), some (.ref 0), some (.ref 25), some (.ref 45), some (.int i), none, none] [] (hp A V O) c s Q := by
  refine R_aload z118_664 rfl ?_
  refine R_aload z118_665 rfl ?_
  refine R_iload z118_666 rfl ?_
  refine R_iconst z118_668 (v := 1) (by decide) ?_
  refine R_iadd z118_669 ?_
  refine R_sld z118_670 (hS.1) ?_
  refine R_aload z118_671 rfl ?_
  refine R_iload z118_672 rfl ?_
  refine R_iconst z118_674 (v := 2) (by decide) ?_
  refine R_iadd z118_675 ?_
  refine R_sld z118_676 (hS.2.1) ?_
  refine R_aload z118_677 rfl ?_
  refine R_iload z118_678 rfl ?_
  refine R_iconst z118_680 (v := 3) (by decide) ?_
  refine R_iadd z118_681 ?_
  refine R_sld z118_682 (hS.2.2.1) ?_
  refine R_aload z118_683 rfl ?_
  refine R_cs z118_684 (k := 109) (kind := 6) (by decide +kernel) (by decide) rfl rfl (jfit_mk (by decide +kernel) (show c + 1 ≤ 1086 by omega) (show s + 6 ≤ 28528 by omega)) (Nat.le_of_ble_eq_true (by rfl)) rfl ?_
  refine GO_imp (fun o h' hh => ?_) hH
  obtain ⟨k, A1, V1, O1, rfl, rfl, hM⟩ := hh
  refine jBk_retw (Or.inl rfl) (c' := c + 1) (s' := s + 6) rfl rfl ?_
  refine R_istore z118_687 (loc' := [some (.ref 9999), some (.ref 0), some (.ref 25), some (.ref 45), some (.int i), some (.int k), none]) rfl rfl ?_
  refine R_aload z118_689 rfl ?_
  refine R_aload z118_690 rfl ?_
  refine R_iload z118_691 rfl ?_
  refine R_iconst z118_693 (v := 1) (by decide) ?_
  refine R_iadd z118_694 ?_
  refine R_sld z118_695 (hS.1) ?_
  refine R_aload z118_696 rfl ?_
  refine R_iload z118_697 rfl ?_
  refine R_iconst z118_699 (v := 2) (by decide) ?_
  refine R_iadd z118_700 ?_
  refine R_sld z118_701 (hS.2.1) ?_
  refine R_aload z118_702 rfl ?_
  refine R_iload z118_703 rfl ?_
  refine R_iconst z118_705 (v := 3) (by decide) ?_
  refine R_iadd z118_706 ?_
  refine R_sld z118_707 (hS.2.2.1) ?_
  refine R_cv z118_708 (k := 86) (by decide +kernel) rfl rfl (jfit_mk (by decide +kernel) (show c + 1 + 0 ≤ 1086 by omega) (show s + 6 + 0 ≤ 28528 by omega)) (Nat.le_of_ble_eq_true (by rfl)) rfl ⟨rfl, trivial⟩ ?_
  refine GO_imp (fun o h' hh => ?_) hM
  obtain ⟨v, A2, V2, rfl, rfl, hV, hO, n2, r2, D2, m2, hR⟩ := hh
  refine jBk_ret rfl ⟨rfl, rfl⟩ ?_
  refine R_istore z118_711 (loc' := [some (.ref 9999), some (.ref 0), some (.ref 25), some (.ref 45), some (.int i), some (.int k), some (.int v)]) rfl rfl ?_
  refine R_aload z118_713 rfl ?_
  refine R_cv z118_714 (k := 62) (by decide +kernel) rfl rfl (jfit_mk (by decide +kernel) (show c + 1 + 0 ≤ 1086 by omega) (show s + 6 + 0 ≤ 28528 by omega)) (Nat.le_of_ble_eq_true (by rfl)) rfl ⟨rfl, trivial⟩ ?_
  refine s62 (jBk_ret rfl ⟨rfl, rfl⟩ ?_)
  refine R_iload z118_717 rfl ?_
  refine R_icmp z118_719 (tn := 724) rfl (fun (h719 : ((V2 6) : Int32) = k) => ?_) (fun q => absurd (hV) q)
  refine R_iload z118_724 rfl ?_
  refine R_if z118_726 (tn := 748) rfl (fun (h726 : ¬ (k : Int32) = 0) => ?_) (fun (h726 : ¬ (¬ (k : Int32) = 0)) => ?_)
  · refine R_goto z118_748 (tn := 1303) rfl ?_
    exact GO_drop 5 (GO_drop 6 (hK A2 V2 O1 n2 r2 D2 m2 hR))
  · refine R_aload z118_729 rfl ?_
    refine R_iconst z118_730 (v := 0) (by decide) ?_
    refine R_lld z118_731 (n := 1) (f := O1) (v := O1 0) rfl (show vp_in (nI 0) 1 from nin (by decide) (by decide)) rfl ?_
    refine R_iload z118_732 rfl ?_
    refine R_if z118_734 (tn := 741) rfl (fun (h734 : (v : Int32) = 0) => ?_) (fun (h734 : ¬ (v : Int32) = 0) => ?_)
    · refine R_lconst z118_741 (v := 0) (by decide) ?_
      refine R_lcmp z118_742 ?_
      refine R_if z118_743 (tn := 748) rfl (fun (h743 : ((lg_cmp (O1 0) 0) : Int32) = 0) => ?_) (fun q => absurd (lgc ((hO (Classical.byContradiction h726)).trans (if_pos h734))) q)
      refine R_goto z118_748 (tn := 1303) rfl ?_
      exact GO_drop 5 (GO_drop 6 (hK A2 V2 O1 n2 r2 D2 m2 hR))
    · refine R_lconst z118_737 (v := 1) (by decide) ?_
      refine R_goto z118_738 (tn := 742) rfl ?_
      refine R_lcmp z118_742 ?_
      refine R_if z118_743 (tn := 748) rfl (fun (h743 : ((lg_cmp (O1 0) 1) : Int32) = 0) => ?_) (fun q => absurd (lgc ((hO (Classical.byContradiction h726)).trans (if_neg h734))) q)
      refine R_goto z118_748 (tn := 1303) rfl ?_
      exact GO_drop 5 (GO_drop 6 (hK A2 V2 O1 n2 r2 D2 m2 hR))
theorem w110 {l : Launch} {E : jEnv} {A : Nat → Nat → Int32} {V : Nat → Int32} {O : Nat → Int64} {Q : jO → List jC → Prop} {c s : Nat} {i : Int32} (hS : sIn E i) (hc : c ≤ 1080) (hs : s ≤ 28500) (hH : GO l E 110 0 [some (.ref 0), some (.int (E.2.2.2.2.2.2 (i + 1).toNatClampNeg)), some (.int (E.2.2.2.2.2.2 (i + 2).toNatClampNeg)), some (.ref 45), none] [] (hp A V O) 0 0 (jHP l E 87 [some (.ref 25), some (.int (E.2.2.2.2.2.2 (i + 1).toNatClampNeg)), some (.int (E.2.2.2.2.2.2 (i + 2).toNatClampNeg)), none] jMP)) (hK : ∀ (A : Nat → Nat → Int32) (V : Nat → Int32) (O : Nat → Int64) (n r D m : Nat), Rel A V n r D m → GO l E 118 1303 [some (.ref 9999), some (.ref 0), some (.ref 25), some (.ref 45), some (.int i), none, none] [] (hp A V O) (c + 1) (s + 6) Q) : GO l E 118 751 [some (.ref 9999), some (.ref 0), some (.ref 25), some (.ref 45), some (.int i), none, none] [] (hp A V O) c s Q := by
  refine R_aload z118_751 rfl ?_
  refine R_aload z118_752 rfl ?_
  refine R_iload z118_753 rfl ?_
  refine R_iconst z118_755 (v := 1) (by decide) ?_
  refine R_iadd z118_756 ?_
  refine R_sld z118_757 (hS.1) ?_
  refine R_aload z118_758 rfl ?_
  refine R_iload z118_759 rfl ?_
  refine R_iconst z118_761 (v := 2) (by decide) ?_
  refine R_iadd z118_762 ?_
  refine R_sld z118_763 (hS.2.1) ?_
  refine R_aload z118_764 rfl ?_
  refine R_cs z118_765 (k := 110) (kind := 6) (by decide +kernel) (by decide) rfl rfl (jfit_mk (by decide +kernel) (show c + 1 ≤ 1086 by omega) (show s + 6 ≤ 28528 by omega)) (Nat.le_of_ble_eq_true (by rfl)) rfl ?_
  refine GO_imp (fun o h' hh => ?_) hH
  obtain ⟨k, A1, V1, O1, rfl, rfl, hM⟩ := hh
  refine jBk_retw (Or.inl rfl) (c' := c + 1) (s' := s + 6) rfl rfl ?_
  refine R_istore z118_768 (loc' := [some (.ref 9999), some (.ref 0), some (.ref 25), some (.ref 45), some (.int i), some (.int k), none]) rfl rfl ?_
  refine R_aload z118_770 rfl ?_
  refine R_aload z118_771 rfl ?_
  refine R_iload z118_772 rfl ?_
  refine R_iconst z118_774 (v := 1) (by decide) ?_
  refine R_iadd z118_775 ?_
  refine R_sld z118_776 (hS.1) ?_
  refine R_aload z118_777 rfl ?_
  refine R_iload z118_778 rfl ?_
  refine R_iconst z118_780 (v := 2) (by decide) ?_
  refine R_iadd z118_781 ?_
  refine R_sld z118_782 (hS.2.1) ?_
  refine R_cv z118_783 (k := 87) (by decide +kernel) rfl rfl (jfit_mk (by decide +kernel) (show c + 1 + 0 ≤ 1086 by omega) (show s + 6 + 0 ≤ 28528 by omega)) (Nat.le_of_ble_eq_true (by rfl)) rfl ⟨rfl, trivial⟩ ?_
  refine GO_imp (fun o h' hh => ?_) hM
  obtain ⟨v, A2, V2, rfl, rfl, hV, hO, n2, r2, D2, m2, hR⟩ := hh
  refine jBk_ret rfl ⟨rfl, rfl⟩ ?_
  refine R_istore z118_786 (loc' := [some (.ref 9999), some (.ref 0), some (.ref 25), some (.ref 45), some (.int i), some (.int k), some (.int v)]) rfl rfl ?_
  refine R_aload z118_788 rfl ?_
  refine R_cv z118_789 (k := 62) (by decide +kernel) rfl rfl (jfit_mk (by decide +kernel) (show c + 1 + 0 ≤ 1086 by omega) (show s + 6 + 0 ≤ 28528 by omega)) (Nat.le_of_ble_eq_true (by rfl)) rfl ⟨rfl, trivial⟩ ?_
  refine s62 (jBk_ret rfl ⟨rfl, rfl⟩ ?_)
  refine R_iload z118_792 rfl ?_
  refine R_icmp z118_794 (tn := 799) rfl (fun (h794 : ((V2 6) : Int32) = k) => ?_) (fun q => absurd (hV) q)
  refine R_iload z118_799 rfl ?_
  refine R_if z118_801 (tn := 816) rfl (fun (h801 : ¬ (k : Int32) = 0) => ?_) (fun (h801 : ¬ (¬ (k : Int32) = 0)) => ?_)
  · refine R_goto z118_816 (tn := 1303) rfl ?_
    exact GO_drop 5 (GO_drop 6 (hK A2 V2 O1 n2 r2 D2 m2 hR))
  · refine R_aload z118_804 rfl ?_
    refine R_iconst z118_805 (v := 0) (by decide) ?_
    refine R_lld z118_806 (n := 1) (f := O1) (v := O1 0) rfl (show vp_in (nI 0) 1 from nin (by decide) (by decide)) rfl ?_
    refine R_iload z118_807 rfl ?_
    refine R_i2l z118_809 ?_
    refine R_lcmp z118_810 ?_
    refine R_if z118_811 (tn := 816) rfl (fun (h811 : ((lg_cmp (O1 0) (v).toInt64) : Int32) = 0) => ?_) (fun q => absurd (lgc (hO (Classical.byContradiction h801))) q)
    refine R_goto z118_816 (tn := 1303) rfl ?_
    exact GO_drop 5 (GO_drop 6 (hK A2 V2 O1 n2 r2 D2 m2 hR))
theorem w111 {l : Launch} {E : jEnv} {A : Nat → Nat → Int32} {V : Nat → Int32} {O : Nat → Int64} {Q : jO → List jC → Prop} {c s : Nat} {i : Int32} (hS : sIn E i) (hc : c ≤ 1080) (hs : s ≤ 28500) (hH : GO l E 111 0 [some (.ref 0), some (.int (E.2.2.2.2.2.2 (i + 1).toNatClampNeg)), some (.int (E.2.2.2.2.2.2 (i + 2).toNatClampNeg)), some (.ref 45), none] [] (hp A V O) 0 0 (jHP l E 88 [some (.ref 25), some (.int (E.2.2.2.2.2.2 (i + 1).toNatClampNeg)), some (.int (E.2.2.2.2.2.2 (i + 2).toNatClampNeg))] jMP)) (hK : ∀ (A : Nat → Nat → Int32) (V : Nat → Int32) (O : Nat → Int64) (n r D m : Nat), Rel A V n r D m → GO l E 118 1303 [some (.ref 9999), some (.ref 0), some (.ref 25), some (.ref 45), some (.int i), none, none] [] (hp A V O) (c + 1) (s + 6) Q) : GO l E 118 819 [some (.ref 9999), some (.ref 0), some (.ref 25), some (.ref 45), some (.int i), none, none] [] (hp A V O) c s Q := by
  refine R_aload z118_819 rfl ?_
  refine R_aload z118_820 rfl ?_
  refine R_iload z118_821 rfl ?_
  refine R_iconst z118_823 (v := 1) (by decide) ?_
  refine R_iadd z118_824 ?_
  refine R_sld z118_825 (hS.1) ?_
  refine R_aload z118_826 rfl ?_
  refine R_iload z118_827 rfl ?_
  refine R_iconst z118_829 (v := 2) (by decide) ?_
  refine R_iadd z118_830 ?_
  refine R_sld z118_831 (hS.2.1) ?_
  refine R_aload z118_832 rfl ?_
  refine R_cs z118_833 (k := 111) (kind := 6) (by decide +kernel) (by decide) rfl rfl (jfit_mk (by decide +kernel) (show c + 1 ≤ 1086 by omega) (show s + 6 ≤ 28528 by omega)) (Nat.le_of_ble_eq_true (by rfl)) rfl ?_
  refine GO_imp (fun o h' hh => ?_) hH
  obtain ⟨k, A1, V1, O1, rfl, rfl, hM⟩ := hh
  refine jBk_retw (Or.inl rfl) (c' := c + 1) (s' := s + 6) rfl rfl ?_
  refine R_istore z118_836 (loc' := [some (.ref 9999), some (.ref 0), some (.ref 25), some (.ref 45), some (.int i), some (.int k), none]) rfl rfl ?_
  refine R_aload z118_838 rfl ?_
  refine R_aload z118_839 rfl ?_
  refine R_iload z118_840 rfl ?_
  refine R_iconst z118_842 (v := 1) (by decide) ?_
  refine R_iadd z118_843 ?_
  refine R_sld z118_844 (hS.1) ?_
  refine R_aload z118_845 rfl ?_
  refine R_iload z118_846 rfl ?_
  refine R_iconst z118_848 (v := 2) (by decide) ?_
  refine R_iadd z118_849 ?_
  refine R_sld z118_850 (hS.2.1) ?_
  refine R_cv z118_851 (k := 88) (by decide +kernel) rfl rfl (jfit_mk (by decide +kernel) (show c + 1 + 0 ≤ 1086 by omega) (show s + 6 + 0 ≤ 28528 by omega)) (Nat.le_of_ble_eq_true (by rfl)) rfl ⟨rfl, trivial⟩ ?_
  refine GO_imp (fun o h' hh => ?_) hM
  obtain ⟨v, A2, V2, rfl, rfl, hV, hO, n2, r2, D2, m2, hR⟩ := hh
  refine jBk_ret rfl ⟨rfl, rfl⟩ ?_
  refine R_istore z118_854 (loc' := [some (.ref 9999), some (.ref 0), some (.ref 25), some (.ref 45), some (.int i), some (.int k), some (.int v)]) rfl rfl ?_
  refine R_aload z118_856 rfl ?_
  refine R_cv z118_857 (k := 62) (by decide +kernel) rfl rfl (jfit_mk (by decide +kernel) (show c + 1 + 0 ≤ 1086 by omega) (show s + 6 + 0 ≤ 28528 by omega)) (Nat.le_of_ble_eq_true (by rfl)) rfl ⟨rfl, trivial⟩ ?_
  refine s62 (jBk_ret rfl ⟨rfl, rfl⟩ ?_)
  refine R_iload z118_860 rfl ?_
  refine R_icmp z118_862 (tn := 867) rfl (fun (h862 : ((V2 6) : Int32) = k) => ?_) (fun q => absurd (hV) q)
  refine R_iload z118_867 rfl ?_
  refine R_if z118_869 (tn := 884) rfl (fun (h869 : ¬ (k : Int32) = 0) => ?_) (fun (h869 : ¬ (¬ (k : Int32) = 0)) => ?_)
  · refine R_goto z118_884 (tn := 1303) rfl ?_
    exact GO_drop 5 (GO_drop 6 (hK A2 V2 O1 n2 r2 D2 m2 hR))
  · refine R_aload z118_872 rfl ?_
    refine R_iconst z118_873 (v := 0) (by decide) ?_
    refine R_lld z118_874 (n := 1) (f := O1) (v := O1 0) rfl (show vp_in (nI 0) 1 from nin (by decide) (by decide)) rfl ?_
    refine R_iload z118_875 rfl ?_
    refine R_i2l z118_877 ?_
    refine R_lcmp z118_878 ?_
    refine R_if z118_879 (tn := 884) rfl (fun (h879 : ((lg_cmp (O1 0) (v).toInt64) : Int32) = 0) => ?_) (fun q => absurd (lgc (hO (Classical.byContradiction h869))) q)
    refine R_goto z118_884 (tn := 1303) rfl ?_
    exact GO_drop 5 (GO_drop 6 (hK A2 V2 O1 n2 r2 D2 m2 hR))
theorem w112 {l : Launch} {E : jEnv} {A : Nat → Nat → Int32} {V : Nat → Int32} {O : Nat → Int64} {Q : jO → List jC → Prop} {c s : Nat} {i : Int32} (hS : sIn E i) (hc : c ≤ 1080) (hs : s ≤ 28500) (hH : GO l E 112 0 [some (.ref 0), some (.int (E.2.2.2.2.2.2 (i + 1).toNatClampNeg)), some (.int (E.2.2.2.2.2.2 (i + 2).toNatClampNeg)), some (.ref 45), none] [] (hp A V O) 0 0 (jHP l E 89 [some (.ref 25), some (.int (E.2.2.2.2.2.2 (i + 1).toNatClampNeg)), some (.int (E.2.2.2.2.2.2 (i + 2).toNatClampNeg))] jMP)) (hK : ∀ (A : Nat → Nat → Int32) (V : Nat → Int32) (O : Nat → Int64) (n r D m : Nat), Rel A V n r D m → GO l E 118 1303 [some (.ref 9999), some (.ref 0), some (.ref 25), some (.ref 45), some (.int i), none, none] [] (hp A V O) (c + 1) (s + 6) Q) : GO l E 118 887 [some (.ref 9999), some (.ref 0), some (.ref 25), some (.ref 45), some (.int i), none, none] [] (hp A V O) c s Q := by
  refine R_aload z118_887 rfl ?_
  refine R_aload z118_888 rfl ?_
  refine R_iload z118_889 rfl ?_
  refine R_iconst z118_891 (v := 1) (by decide) ?_
  refine R_iadd z118_892 ?_
  refine R_sld z118_893 (hS.1) ?_
  refine R_aload z118_894 rfl ?_
  refine R_iload z118_895 rfl ?_
  refine R_iconst z118_897 (v := 2) (by decide) ?_
  refine R_iadd z118_898 ?_
  refine R_sld z118_899 (hS.2.1) ?_
  refine R_aload z118_900 rfl ?_
  refine R_cs z118_901 (k := 112) (kind := 6) (by decide +kernel) (by decide) rfl rfl (jfit_mk (by decide +kernel) (show c + 1 ≤ 1086 by omega) (show s + 6 ≤ 28528 by omega)) (Nat.le_of_ble_eq_true (by rfl)) rfl ?_
  refine GO_imp (fun o h' hh => ?_) hH
  obtain ⟨k, A1, V1, O1, rfl, rfl, hM⟩ := hh
  refine jBk_retw (Or.inl rfl) (c' := c + 1) (s' := s + 6) rfl rfl ?_
  refine R_istore z118_904 (loc' := [some (.ref 9999), some (.ref 0), some (.ref 25), some (.ref 45), some (.int i), some (.int k), none]) rfl rfl ?_
  refine R_aload z118_906 rfl ?_
  refine R_aload z118_907 rfl ?_
  refine R_iload z118_908 rfl ?_
  refine R_iconst z118_910 (v := 1) (by decide) ?_
  refine R_iadd z118_911 ?_
  refine R_sld z118_912 (hS.1) ?_
  refine R_aload z118_913 rfl ?_
  refine R_iload z118_914 rfl ?_
  refine R_iconst z118_916 (v := 2) (by decide) ?_
  refine R_iadd z118_917 ?_
  refine R_sld z118_918 (hS.2.1) ?_
  refine R_cv z118_919 (k := 89) (by decide +kernel) rfl rfl (jfit_mk (by decide +kernel) (show c + 1 + 0 ≤ 1086 by omega) (show s + 6 + 0 ≤ 28528 by omega)) (Nat.le_of_ble_eq_true (by rfl)) rfl ⟨rfl, trivial⟩ ?_
  refine GO_imp (fun o h' hh => ?_) hM
  obtain ⟨v, A2, V2, rfl, rfl, hV, hO, n2, r2, D2, m2, hR⟩ := hh
  refine jBk_ret rfl ⟨rfl, rfl⟩ ?_
  refine R_istore z118_922 (loc' := [some (.ref 9999), some (.ref 0), some (.ref 25), some (.ref 45), some (.int i), some (.int k), some (.int v)]) rfl rfl ?_
  refine R_aload z118_924 rfl ?_
  refine R_cv z118_925 (k := 62) (by decide +kernel) rfl rfl (jfit_mk (by decide +kernel) (show c + 1 + 0 ≤ 1086 by omega) (show s + 6 + 0 ≤ 28528 by omega)) (Nat.le_of_ble_eq_true (by rfl)) rfl ⟨rfl, trivial⟩ ?_
  refine s62 (jBk_ret rfl ⟨rfl, rfl⟩ ?_)
  refine R_iload z118_928 rfl ?_
  refine R_icmp z118_930 (tn := 935) rfl (fun (h930 : ((V2 6) : Int32) = k) => ?_) (fun q => absurd (hV) q)
  refine R_iload z118_935 rfl ?_
  refine R_if z118_937 (tn := 952) rfl (fun (h937 : ¬ (k : Int32) = 0) => ?_) (fun (h937 : ¬ (¬ (k : Int32) = 0)) => ?_)
  · refine R_goto z118_952 (tn := 1303) rfl ?_
    exact GO_drop 5 (GO_drop 6 (hK A2 V2 O1 n2 r2 D2 m2 hR))
  · refine R_aload z118_940 rfl ?_
    refine R_iconst z118_941 (v := 0) (by decide) ?_
    refine R_lld z118_942 (n := 1) (f := O1) (v := O1 0) rfl (show vp_in (nI 0) 1 from nin (by decide) (by decide)) rfl ?_
    refine R_iload z118_943 rfl ?_
    refine R_i2l z118_945 ?_
    refine R_lcmp z118_946 ?_
    refine R_if z118_947 (tn := 952) rfl (fun (h947 : ((lg_cmp (O1 0) (v).toInt64) : Int32) = 0) => ?_) (fun q => absurd (lgc (hO (Classical.byContradiction h937))) q)
    refine R_goto z118_952 (tn := 1303) rfl ?_
    exact GO_drop 5 (GO_drop 6 (hK A2 V2 O1 n2 r2 D2 m2 hR))
theorem w113 {l : Launch} {E : jEnv} {A : Nat → Nat → Int32} {V : Nat → Int32} {O : Nat → Int64} {Q : jO → List jC → Prop} {c s : Nat} {i : Int32} (hS : sIn E i) (hc : c ≤ 1080) (hs : s ≤ 28500) (hH : GO l E 113 0 [some (.ref 0), some (.int (E.2.2.2.2.2.2 (i + 1).toNatClampNeg)), some (.ref 45), none] [] (hp A V O) 0 0 (jHP l E 90 [some (.ref 25), some (.int (E.2.2.2.2.2.2 (i + 1).toNatClampNeg))] jMP)) (hK : ∀ (A : Nat → Nat → Int32) (V : Nat → Int32) (O : Nat → Int64) (n r D m : Nat), Rel A V n r D m → GO l E 118 1303 [some (.ref 9999), some (.ref 0), some (.ref 25), some (.ref 45), some (.int i), none, none] [] (hp A V O) (c + 1) (s + 6) Q) : GO l E 118 955 [some (.ref 9999), some (.ref 0), some (.ref 25), some (.ref 45), some (.int i), none, none] [] (hp A V O) c s Q := by
  refine R_aload z118_955 rfl ?_
  refine R_aload z118_956 rfl ?_
  refine R_iload z118_957 rfl ?_
  refine R_iconst z118_959 (v := 1) (by decide) ?_
  refine R_iadd z118_960 ?_
  refine R_sld z118_961 (hS.1) ?_
  refine R_aload z118_962 rfl ?_
  refine R_cs z118_963 (k := 113) (kind := 6) (by decide +kernel) (by decide) rfl rfl (jfit_mk (by decide +kernel) (show c + 1 ≤ 1086 by omega) (show s + 6 ≤ 28528 by omega)) (Nat.le_of_ble_eq_true (by rfl)) rfl ?_
  refine GO_imp (fun o h' hh => ?_) hH
  obtain ⟨k, A1, V1, O1, rfl, rfl, hM⟩ := hh
  refine jBk_retw (Or.inl rfl) (c' := c + 1) (s' := s + 6) rfl rfl ?_
  refine R_istore z118_966 (loc' := [some (.ref 9999), some (.ref 0), some (.ref 25), some (.ref 45), some (.int i), some (.int k), none]) rfl rfl ?_
  refine R_aload z118_968 rfl ?_
  refine R_aload z118_969 rfl ?_
  refine R_iload z118_970 rfl ?_
  refine R_iconst z118_972 (v := 1) (by decide) ?_
  refine R_iadd z118_973 ?_
  refine R_sld z118_974 (hS.1) ?_
  refine R_cv z118_975 (k := 90) (by decide +kernel) rfl rfl (jfit_mk (by decide +kernel) (show c + 1 + 0 ≤ 1086 by omega) (show s + 6 + 0 ≤ 28528 by omega)) (Nat.le_of_ble_eq_true (by rfl)) rfl ⟨rfl, trivial⟩ ?_
  refine GO_imp (fun o h' hh => ?_) hM
  obtain ⟨v, A2, V2, rfl, rfl, hV, hO, n2, r2, D2, m2, hR⟩ := hh
  refine jBk_ret rfl ⟨rfl, rfl⟩ ?_
  refine R_istore z118_978 (loc' := [some (.ref 9999), some (.ref 0), some (.ref 25), some (.ref 45), some (.int i), some (.int k), some (.int v)]) rfl rfl ?_
  refine R_aload z118_980 rfl ?_
  refine R_cv z118_981 (k := 62) (by decide +kernel) rfl rfl (jfit_mk (by decide +kernel) (show c + 1 + 0 ≤ 1086 by omega) (show s + 6 + 0 ≤ 28528 by omega)) (Nat.le_of_ble_eq_true (by rfl)) rfl ⟨rfl, trivial⟩ ?_
  refine s62 (jBk_ret rfl ⟨rfl, rfl⟩ ?_)
  refine R_iload z118_984 rfl ?_
  refine R_icmp z118_986 (tn := 991) rfl (fun (h986 : ((V2 6) : Int32) = k) => ?_) (fun q => absurd (hV) q)
  refine R_iload z118_991 rfl ?_
  refine R_if z118_993 (tn := 1008) rfl (fun (h993 : ¬ (k : Int32) = 0) => ?_) (fun (h993 : ¬ (¬ (k : Int32) = 0)) => ?_)
  · refine R_goto z118_1008 (tn := 1303) rfl ?_
    exact GO_drop 5 (GO_drop 6 (hK A2 V2 O1 n2 r2 D2 m2 hR))
  · refine R_aload z118_996 rfl ?_
    refine R_iconst z118_997 (v := 0) (by decide) ?_
    refine R_lld z118_998 (n := 1) (f := O1) (v := O1 0) rfl (show vp_in (nI 0) 1 from nin (by decide) (by decide)) rfl ?_
    refine R_iload z118_999 rfl ?_
    refine R_i2l z118_1001 ?_
    refine R_lcmp z118_1002 ?_
    refine R_if z118_1003 (tn := 1008) rfl (fun (h1003 : ((lg_cmp (O1 0) (v).toInt64) : Int32) = 0) => ?_) (fun q => absurd (lgc (hO (Classical.byContradiction h993))) q)
    refine R_goto z118_1008 (tn := 1303) rfl ?_
    exact GO_drop 5 (GO_drop 6 (hK A2 V2 O1 n2 r2 D2 m2 hR))
theorem w114 {l : Launch} {E : jEnv} {A : Nat → Nat → Int32} {V : Nat → Int32} {O : Nat → Int64} {Q : jO → List jC → Prop} {c s : Nat} {i : Int32} (hS : sIn E i) (hc : c ≤ 1080) (hs : s ≤ 28500) (hH : GO l E 114 0 [some (.ref 0), some (.long (((E.2.2.2.2.2.2 (i + 1).toNatClampNeg).toInt64 <<< ((32 : Int32).toInt64 &&& 63)) ||| ((E.2.2.2.2.2.2 (i + 2).toNatClampNeg).toInt64 &&& 4294967295))), none, some (.int (E.2.2.2.2.2.2 (i + 3).toNatClampNeg)), some (.int (E.2.2.2.2.2.2 (i + 4).toNatClampNeg)), some (.ref 45), none] [] (hp A V O) 0 0 (jHP l E 96 [some (.ref 25), some (.long (((E.2.2.2.2.2.2 (i + 1).toNatClampNeg).toInt64 <<< ((32 : Int32).toInt64 &&& 63)) ||| ((E.2.2.2.2.2.2 (i + 2).toNatClampNeg).toInt64 &&& 4294967295))), none, some (.int (E.2.2.2.2.2.2 (i + 3).toNatClampNeg)), some (.int (E.2.2.2.2.2.2 (i + 4).toNatClampNeg)), none, none, none, none, none, none] jMP)) (hK : ∀ (A : Nat → Nat → Int32) (V : Nat → Int32) (O : Nat → Int64) (n r D m : Nat), Rel A V n r D m → GO l E 118 1303 [some (.ref 9999), some (.ref 0), some (.ref 25), some (.ref 45), some (.int i), none, none] [] (hp A V O) (c + 1) (s + 6) Q) : GO l E 118 1011 [some (.ref 9999), some (.ref 0), some (.ref 25), some (.ref 45), some (.int i), none, none] [] (hp A V O) c s Q := by
  refine R_aload z118_1011 rfl ?_
  refine R_aload z118_1012 rfl ?_
  refine R_iload z118_1013 rfl ?_
  refine R_iconst z118_1015 (v := 1) (by decide) ?_
  refine R_iadd z118_1016 ?_
  refine R_sld z118_1017 (hS.1) ?_
  refine R_i2l z118_1018 ?_
  refine R_bipush z118_1019 (v := 32) (by decide) ?_
  refine R_lshl z118_1021 ?_
  refine R_aload z118_1022 rfl ?_
  refine R_iload z118_1023 rfl ?_
  refine R_iconst z118_1025 (v := 2) (by decide) ?_
  refine R_iadd z118_1026 ?_
  refine R_sld z118_1027 (hS.2.1) ?_
  refine R_i2l z118_1028 ?_
  refine R_ldc2 z118_1029 (v := 4294967295) (by decide +kernel) ?_
  refine R_land z118_1032 ?_
  refine R_lor z118_1033 ?_
  refine R_aload z118_1034 rfl ?_
  refine R_iload z118_1035 rfl ?_
  refine R_iconst z118_1037 (v := 3) (by decide) ?_
  refine R_iadd z118_1038 ?_
  refine R_sld z118_1039 (hS.2.2.1) ?_
  refine R_aload z118_1040 rfl ?_
  refine R_iload z118_1041 rfl ?_
  refine R_iconst z118_1043 (v := 4) (by decide) ?_
  refine R_iadd z118_1044 ?_
  refine R_sld z118_1045 (hS.2.2.2) ?_
  refine R_aload z118_1046 rfl ?_
  refine R_cs z118_1047 (k := 114) (kind := 6) (by decide +kernel) (by decide) rfl rfl (jfit_mk (by decide +kernel) (show c + 1 ≤ 1086 by omega) (show s + 6 ≤ 28528 by omega)) (Nat.le_of_ble_eq_true (by rfl)) rfl ?_
  refine GO_imp (fun o h' hh => ?_) hH
  obtain ⟨k, A1, V1, O1, rfl, rfl, hM⟩ := hh
  refine jBk_retw (Or.inl rfl) (c' := c + 1) (s' := s + 6) rfl rfl ?_
  refine R_istore z118_1050 (loc' := [some (.ref 9999), some (.ref 0), some (.ref 25), some (.ref 45), some (.int i), some (.int k), none]) rfl rfl ?_
  refine R_aload z118_1052 rfl ?_
  refine R_aload z118_1053 rfl ?_
  refine R_iload z118_1054 rfl ?_
  refine R_iconst z118_1056 (v := 1) (by decide) ?_
  refine R_iadd z118_1057 ?_
  refine R_sld z118_1058 (hS.1) ?_
  refine R_i2l z118_1059 ?_
  refine R_bipush z118_1060 (v := 32) (by decide) ?_
  refine R_lshl z118_1062 ?_
  refine R_aload z118_1063 rfl ?_
  refine R_iload z118_1064 rfl ?_
  refine R_iconst z118_1066 (v := 2) (by decide) ?_
  refine R_iadd z118_1067 ?_
  refine R_sld z118_1068 (hS.2.1) ?_
  refine R_i2l z118_1069 ?_
  refine R_ldc2 z118_1070 (v := 4294967295) (by decide +kernel) ?_
  refine R_land z118_1073 ?_
  refine R_lor z118_1074 ?_
  refine R_aload z118_1075 rfl ?_
  refine R_iload z118_1076 rfl ?_
  refine R_iconst z118_1078 (v := 3) (by decide) ?_
  refine R_iadd z118_1079 ?_
  refine R_sld z118_1080 (hS.2.2.1) ?_
  refine R_aload z118_1081 rfl ?_
  refine R_iload z118_1082 rfl ?_
  refine R_iconst z118_1084 (v := 4) (by decide) ?_
  refine R_iadd z118_1085 ?_
  refine R_sld z118_1086 (hS.2.2.2) ?_
  refine R_cv z118_1087 (k := 96) (by decide +kernel) rfl rfl (jfit_mk (by decide +kernel) (show c + 1 + 0 ≤ 1086 by omega) (show s + 6 + 0 ≤ 28528 by omega)) (Nat.le_of_ble_eq_true (by rfl)) rfl ⟨rfl, trivial⟩ ?_
  refine GO_imp (fun o h' hh => ?_) hM
  obtain ⟨v, A2, V2, rfl, rfl, hV, hO, n2, r2, D2, m2, hR⟩ := hh
  refine jBk_ret rfl ⟨rfl, rfl⟩ ?_
  refine R_istore z118_1090 (loc' := [some (.ref 9999), some (.ref 0), some (.ref 25), some (.ref 45), some (.int i), some (.int k), some (.int v)]) rfl rfl ?_
  refine R_aload z118_1092 rfl ?_
  refine R_cv z118_1093 (k := 62) (by decide +kernel) rfl rfl (jfit_mk (by decide +kernel) (show c + 1 + 0 ≤ 1086 by omega) (show s + 6 + 0 ≤ 28528 by omega)) (Nat.le_of_ble_eq_true (by rfl)) rfl ⟨rfl, trivial⟩ ?_
  refine s62 (jBk_ret rfl ⟨rfl, rfl⟩ ?_)
  refine R_iload z118_1096 rfl ?_
  refine R_icmp z118_1098 (tn := 1103) rfl (fun (h1098 : ((V2 6) : Int32) = k) => ?_) (fun q => absurd (hV) q)
  refine R_iload z118_1103 rfl ?_
  refine R_if z118_1105 (tn := 1120) rfl (fun (h1105 : ¬ (k : Int32) = 0) => ?_) (fun (h1105 : ¬ (¬ (k : Int32) = 0)) => ?_)
  · refine R_goto z118_1120 (tn := 1303) rfl ?_
    exact GO_drop 5 (GO_drop 6 (hK A2 V2 O1 n2 r2 D2 m2 hR))
  · refine R_aload z118_1108 rfl ?_
    refine R_iconst z118_1109 (v := 0) (by decide) ?_
    refine R_lld z118_1110 (n := 1) (f := O1) (v := O1 0) rfl (show vp_in (nI 0) 1 from nin (by decide) (by decide)) rfl ?_
    refine R_iload z118_1111 rfl ?_
    refine R_i2l z118_1113 ?_
    refine R_lcmp z118_1114 ?_
    refine R_if z118_1115 (tn := 1120) rfl (fun (h1115 : ((lg_cmp (O1 0) (v).toInt64) : Int32) = 0) => ?_) (fun q => absurd (lgc (hO (Classical.byContradiction h1105))) q)
    refine R_goto z118_1120 (tn := 1303) rfl ?_
    exact GO_drop 5 (GO_drop 6 (hK A2 V2 O1 n2 r2 D2 m2 hR))
theorem w115 {l : Launch} {E : jEnv} {A : Nat → Nat → Int32} {V : Nat → Int32} {O : Nat → Int64} {Q : jO → List jC → Prop} {c s : Nat} {i : Int32} (hS : sIn E i) (hc : c ≤ 1080) (hs : s ≤ 28500) (hH : GO l E 115 0 [some (.ref 0), some (.int (E.2.2.2.2.2.2 (i + 1).toNatClampNeg)), some (.ref 45), none] [] (hp A V O) 0 0 (jHP l E 97 [some (.ref 25), some (.int (E.2.2.2.2.2.2 (i + 1).toNatClampNeg))] jMP)) (hK : ∀ (A : Nat → Nat → Int32) (V : Nat → Int32) (O : Nat → Int64) (n r D m : Nat), Rel A V n r D m → GO l E 118 1303 [some (.ref 9999), some (.ref 0), some (.ref 25), some (.ref 45), some (.int i), none, none] [] (hp A V O) (c + 1) (s + 6) Q) : GO l E 118 1123 [some (.ref 9999), some (.ref 0), some (.ref 25), some (.ref 45), some (.int i), none, none] [] (hp A V O) c s Q := by
  refine R_aload z118_1123 rfl ?_
  refine R_aload z118_1124 rfl ?_
  refine R_iload z118_1125 rfl ?_
  refine R_iconst z118_1127 (v := 1) (by decide) ?_
  refine R_iadd z118_1128 ?_
  refine R_sld z118_1129 (hS.1) ?_
  refine R_aload z118_1130 rfl ?_
  refine R_cs z118_1131 (k := 115) (kind := 6) (by decide +kernel) (by decide) rfl rfl (jfit_mk (by decide +kernel) (show c + 1 ≤ 1086 by omega) (show s + 6 ≤ 28528 by omega)) (Nat.le_of_ble_eq_true (by rfl)) rfl ?_
  refine GO_imp (fun o h' hh => ?_) hH
  obtain ⟨k, A1, V1, O1, rfl, rfl, hM⟩ := hh
  refine jBk_retw (Or.inl rfl) (c' := c + 1) (s' := s + 6) rfl rfl ?_
  refine R_istore z118_1134 (loc' := [some (.ref 9999), some (.ref 0), some (.ref 25), some (.ref 45), some (.int i), some (.int k), none]) rfl rfl ?_
  refine R_aload z118_1136 rfl ?_
  refine R_aload z118_1137 rfl ?_
  refine R_iload z118_1138 rfl ?_
  refine R_iconst z118_1140 (v := 1) (by decide) ?_
  refine R_iadd z118_1141 ?_
  refine R_sld z118_1142 (hS.1) ?_
  refine R_cv z118_1143 (k := 97) (by decide +kernel) rfl rfl (jfit_mk (by decide +kernel) (show c + 1 + 0 ≤ 1086 by omega) (show s + 6 + 0 ≤ 28528 by omega)) (Nat.le_of_ble_eq_true (by rfl)) rfl ⟨rfl, trivial⟩ ?_
  refine GO_imp (fun o h' hh => ?_) hM
  obtain ⟨v, A2, V2, rfl, rfl, hV, hO, n2, r2, D2, m2, hR⟩ := hh
  refine jBk_ret rfl ⟨rfl, rfl⟩ ?_
  refine R_istore z118_1146 (loc' := [some (.ref 9999), some (.ref 0), some (.ref 25), some (.ref 45), some (.int i), some (.int k), some (.int v)]) rfl rfl ?_
  refine R_aload z118_1148 rfl ?_
  refine R_cv z118_1149 (k := 62) (by decide +kernel) rfl rfl (jfit_mk (by decide +kernel) (show c + 1 + 0 ≤ 1086 by omega) (show s + 6 + 0 ≤ 28528 by omega)) (Nat.le_of_ble_eq_true (by rfl)) rfl ⟨rfl, trivial⟩ ?_
  refine s62 (jBk_ret rfl ⟨rfl, rfl⟩ ?_)
  refine R_iload z118_1152 rfl ?_
  refine R_icmp z118_1154 (tn := 1159) rfl (fun (h1154 : ((V2 6) : Int32) = k) => ?_) (fun q => absurd (hV) q)
  refine R_iload z118_1159 rfl ?_
  refine R_if z118_1161 (tn := 1176) rfl (fun (h1161 : ¬ (k : Int32) = 0) => ?_) (fun (h1161 : ¬ (¬ (k : Int32) = 0)) => ?_)
  · refine R_goto z118_1176 (tn := 1303) rfl ?_
    exact GO_drop 5 (GO_drop 6 (hK A2 V2 O1 n2 r2 D2 m2 hR))
  · refine R_aload z118_1164 rfl ?_
    refine R_iconst z118_1165 (v := 0) (by decide) ?_
    refine R_lld z118_1166 (n := 1) (f := O1) (v := O1 0) rfl (show vp_in (nI 0) 1 from nin (by decide) (by decide)) rfl ?_
    refine R_iload z118_1167 rfl ?_
    refine R_i2l z118_1169 ?_
    refine R_lcmp z118_1170 ?_
    refine R_if z118_1171 (tn := 1176) rfl (fun (h1171 : ((lg_cmp (O1 0) (v).toInt64) : Int32) = 0) => ?_) (fun q => absurd (lgc (hO (Classical.byContradiction h1161))) q)
    refine R_goto z118_1176 (tn := 1303) rfl ?_
    exact GO_drop 5 (GO_drop 6 (hK A2 V2 O1 n2 r2 D2 m2 hR))
theorem w116 {l : Launch} {E : jEnv} {A : Nat → Nat → Int32} {V : Nat → Int32} {O : Nat → Int64} {Q : jO → List jC → Prop} {c s : Nat} {i : Int32} (hS : sIn E i) (hc : c ≤ 1080) (hs : s ≤ 28500) (hH : GO l E 116 0 [some (.ref 0), some (.int (E.2.2.2.2.2.2 (i + 1).toNatClampNeg)), some (.int (E.2.2.2.2.2.2 (i + 2).toNatClampNeg)), some (.ref 45), none] [] (hp A V O) 0 0 (jHP l E 98 [some (.ref 25), some (.int (E.2.2.2.2.2.2 (i + 1).toNatClampNeg)), some (.int (E.2.2.2.2.2.2 (i + 2).toNatClampNeg)), none, none] jMP)) (hK : ∀ (A : Nat → Nat → Int32) (V : Nat → Int32) (O : Nat → Int64) (n r D m : Nat), Rel A V n r D m → GO l E 118 1303 [some (.ref 9999), some (.ref 0), some (.ref 25), some (.ref 45), some (.int i), none, none] [] (hp A V O) (c + 1) (s + 6) Q) : GO l E 118 1179 [some (.ref 9999), some (.ref 0), some (.ref 25), some (.ref 45), some (.int i), none, none] [] (hp A V O) c s Q := by
  refine R_aload z118_1179 rfl ?_
  refine R_aload z118_1180 rfl ?_
  refine R_iload z118_1181 rfl ?_
  refine R_iconst z118_1183 (v := 1) (by decide) ?_
  refine R_iadd z118_1184 ?_
  refine R_sld z118_1185 (hS.1) ?_
  refine R_aload z118_1186 rfl ?_
  refine R_iload z118_1187 rfl ?_
  refine R_iconst z118_1189 (v := 2) (by decide) ?_
  refine R_iadd z118_1190 ?_
  refine R_sld z118_1191 (hS.2.1) ?_
  refine R_aload z118_1192 rfl ?_
  refine R_cs z118_1193 (k := 116) (kind := 6) (by decide +kernel) (by decide) rfl rfl (jfit_mk (by decide +kernel) (show c + 1 ≤ 1086 by omega) (show s + 6 ≤ 28528 by omega)) (Nat.le_of_ble_eq_true (by rfl)) rfl ?_
  refine GO_imp (fun o h' hh => ?_) hH
  obtain ⟨k, A1, V1, O1, rfl, rfl, hM⟩ := hh
  refine jBk_retw (Or.inl rfl) (c' := c + 1) (s' := s + 6) rfl rfl ?_
  refine R_istore z118_1196 (loc' := [some (.ref 9999), some (.ref 0), some (.ref 25), some (.ref 45), some (.int i), some (.int k), none]) rfl rfl ?_
  refine R_aload z118_1198 rfl ?_
  refine R_aload z118_1199 rfl ?_
  refine R_iload z118_1200 rfl ?_
  refine R_iconst z118_1202 (v := 1) (by decide) ?_
  refine R_iadd z118_1203 ?_
  refine R_sld z118_1204 (hS.1) ?_
  refine R_aload z118_1205 rfl ?_
  refine R_iload z118_1206 rfl ?_
  refine R_iconst z118_1208 (v := 2) (by decide) ?_
  refine R_iadd z118_1209 ?_
  refine R_sld z118_1210 (hS.2.1) ?_
  refine R_cv z118_1211 (k := 98) (by decide +kernel) rfl rfl (jfit_mk (by decide +kernel) (show c + 1 + 0 ≤ 1086 by omega) (show s + 6 + 0 ≤ 28528 by omega)) (Nat.le_of_ble_eq_true (by rfl)) rfl ⟨rfl, trivial⟩ ?_
  refine GO_imp (fun o h' hh => ?_) hM
  obtain ⟨v, A2, V2, rfl, rfl, hV, hO, n2, r2, D2, m2, hR⟩ := hh
  refine jBk_ret rfl ⟨rfl, rfl⟩ ?_
  refine R_istore z118_1214 (loc' := [some (.ref 9999), some (.ref 0), some (.ref 25), some (.ref 45), some (.int i), some (.int k), some (.int v)]) rfl rfl ?_
  refine R_aload z118_1216 rfl ?_
  refine R_cv z118_1217 (k := 62) (by decide +kernel) rfl rfl (jfit_mk (by decide +kernel) (show c + 1 + 0 ≤ 1086 by omega) (show s + 6 + 0 ≤ 28528 by omega)) (Nat.le_of_ble_eq_true (by rfl)) rfl ⟨rfl, trivial⟩ ?_
  refine s62 (jBk_ret rfl ⟨rfl, rfl⟩ ?_)
  refine R_iload z118_1220 rfl ?_
  refine R_icmp z118_1222 (tn := 1227) rfl (fun (h1222 : ((V2 6) : Int32) = k) => ?_) (fun q => absurd (hV) q)
  refine R_iload z118_1227 rfl ?_
  refine R_if z118_1229 (tn := 1244) rfl (fun (h1229 : ¬ (k : Int32) = 0) => ?_) (fun (h1229 : ¬ (¬ (k : Int32) = 0)) => ?_)
  · refine R_goto z118_1244 (tn := 1303) rfl ?_
    exact GO_drop 5 (GO_drop 6 (hK A2 V2 O1 n2 r2 D2 m2 hR))
  · refine R_aload z118_1232 rfl ?_
    refine R_iconst z118_1233 (v := 0) (by decide) ?_
    refine R_lld z118_1234 (n := 1) (f := O1) (v := O1 0) rfl (show vp_in (nI 0) 1 from nin (by decide) (by decide)) rfl ?_
    refine R_iload z118_1235 rfl ?_
    refine R_i2l z118_1237 ?_
    refine R_lcmp z118_1238 ?_
    refine R_if z118_1239 (tn := 1244) rfl (fun (h1239 : ((lg_cmp (O1 0) (v).toInt64) : Int32) = 0) => ?_) (fun q => absurd (lgc (hO (Classical.byContradiction h1229))) q)
    refine R_goto z118_1244 (tn := 1303) rfl ?_
    exact GO_drop 5 (GO_drop 6 (hK A2 V2 O1 n2 r2 D2 m2 hR))
theorem w117 {l : Launch} {E : jEnv} {A : Nat → Nat → Int32} {V : Nat → Int32} {O : Nat → Int64} {Q : jO → List jC → Prop} {c s : Nat} {i : Int32} (hS : sIn E i) (hc : c ≤ 1080) (hs : s ≤ 28500) (hH : GO l E 117 0 [some (.ref 0), some (.int (E.2.2.2.2.2.2 (i + 1).toNatClampNeg)), some (.ref 45), none] [] (hp A V O) 0 0 (jHP l E 99 [some (.ref 25), some (.int (E.2.2.2.2.2.2 (i + 1).toNatClampNeg)), none, none, none, none] jMP)) (hK : ∀ (A : Nat → Nat → Int32) (V : Nat → Int32) (O : Nat → Int64) (n r D m : Nat), Rel A V n r D m → GO l E 118 1303 [some (.ref 9999), some (.ref 0), some (.ref 25), some (.ref 45), some (.int i), none, none] [] (hp A V O) (c + 1) (s + 6) Q) : GO l E 118 1247 [some (.ref 9999), some (.ref 0), some (.ref 25), some (.ref 45), some (.int i), none, none] [] (hp A V O) c s Q := by
  refine R_aload z118_1247 rfl ?_
  refine R_aload z118_1248 rfl ?_
  refine R_iload z118_1249 rfl ?_
  refine R_iconst z118_1251 (v := 1) (by decide) ?_
  refine R_iadd z118_1252 ?_
  refine R_sld z118_1253 (hS.1) ?_
  refine R_aload z118_1254 rfl ?_
  refine R_cs z118_1255 (k := 117) (kind := 6) (by decide +kernel) (by decide) rfl rfl (jfit_mk (by decide +kernel) (show c + 1 ≤ 1086 by omega) (show s + 6 ≤ 28528 by omega)) (Nat.le_of_ble_eq_true (by rfl)) rfl ?_
  refine GO_imp (fun o h' hh => ?_) hH
  obtain ⟨k, A1, V1, O1, rfl, rfl, hM⟩ := hh
  refine jBk_retw (Or.inl rfl) (c' := c + 1) (s' := s + 6) rfl rfl ?_
  refine R_istore z118_1258 (loc' := [some (.ref 9999), some (.ref 0), some (.ref 25), some (.ref 45), some (.int i), some (.int k), none]) rfl rfl ?_
  refine R_aload z118_1260 rfl ?_
  refine R_aload z118_1261 rfl ?_
  refine R_iload z118_1262 rfl ?_
  refine R_iconst z118_1264 (v := 1) (by decide) ?_
  refine R_iadd z118_1265 ?_
  refine R_sld z118_1266 (hS.1) ?_
  refine R_cv z118_1267 (k := 99) (by decide +kernel) rfl rfl (jfit_mk (by decide +kernel) (show c + 1 + 0 ≤ 1086 by omega) (show s + 6 + 0 ≤ 28528 by omega)) (Nat.le_of_ble_eq_true (by rfl)) rfl ⟨rfl, trivial⟩ ?_
  refine GO_imp (fun o h' hh => ?_) hM
  obtain ⟨v, A2, V2, rfl, rfl, hV, hO, n2, r2, D2, m2, hR⟩ := hh
  refine jBk_ret rfl ⟨rfl, rfl⟩ ?_
  refine R_istore z118_1270 (loc' := [some (.ref 9999), some (.ref 0), some (.ref 25), some (.ref 45), some (.int i), some (.int k), some (.int v)]) rfl rfl ?_
  refine R_aload z118_1272 rfl ?_
  refine R_cv z118_1273 (k := 62) (by decide +kernel) rfl rfl (jfit_mk (by decide +kernel) (show c + 1 + 0 ≤ 1086 by omega) (show s + 6 + 0 ≤ 28528 by omega)) (Nat.le_of_ble_eq_true (by rfl)) rfl ⟨rfl, trivial⟩ ?_
  refine s62 (jBk_ret rfl ⟨rfl, rfl⟩ ?_)
  refine R_iload z118_1276 rfl ?_
  refine R_icmp z118_1278 (tn := 1283) rfl (fun (h1278 : ((V2 6) : Int32) = k) => ?_) (fun q => absurd (hV) q)
  refine R_iload z118_1283 rfl ?_
  refine R_if z118_1285 (tn := 1300) rfl (fun (h1285 : ¬ (k : Int32) = 0) => ?_) (fun (h1285 : ¬ (¬ (k : Int32) = 0)) => ?_)
  · refine R_goto z118_1300 (tn := 1303) rfl ?_
    exact GO_drop 5 (GO_drop 6 (hK A2 V2 O1 n2 r2 D2 m2 hR))
  · refine R_aload z118_1288 rfl ?_
    refine R_iconst z118_1289 (v := 0) (by decide) ?_
    refine R_lld z118_1290 (n := 1) (f := O1) (v := O1 0) rfl (show vp_in (nI 0) 1 from nin (by decide) (by decide)) rfl ?_
    refine R_iload z118_1291 rfl ?_
    refine R_i2l z118_1293 ?_
    refine R_lcmp z118_1294 ?_
    refine R_if z118_1295 (tn := 1300) rfl (fun (h1295 : ((lg_cmp (O1 0) (v).toInt64) : Int32) = 0) => ?_) (fun q => absurd (lgc (hO (Classical.byContradiction h1285))) q)
    refine R_goto z118_1300 (tn := 1303) rfl ?_
    exact GO_drop 5 (GO_drop 6 (hK A2 V2 O1 n2 r2 D2 m2 hR))

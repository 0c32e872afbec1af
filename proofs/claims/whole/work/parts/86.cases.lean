/-! THE LAW'S CASES -/
section ZLC
variable {X : zX} {l : Launch} {D : va_G} {g : Nat → ClassId} {ea : Nat → Nat} {a bm : Nat → Nat} {o : Nat} {b L : Nat} {xs : Nat → Int32} {cells slots : Nat}
set_option maxHeartbeats 4000000 in
set_option maxRecDepth 100000 in
theorem law_c0 (hst : l.stackTraces = false) (C : zC X D 8 code RL wsL_law (zT g)) (hR : zR X room_1) (hL : zL X l) (CL : zCL X ea) (SC : zSc X b L xs) {A : zNt} {P : zPa} {x m : zS} {f : Nat → Int64} (hx : ST A P x) (hm : SM A P m) {i : Int32} (hin : ∀ v : Int32, 0 ≤ v.toInt → v.toInt ≤ 4 → vp_in (i + v) L) (hc : cells + 3 ≤ 658665) (hs : slots + 18 ≤ 7120110)
    (K : ∀ (A' : zNt) (P' : zPa) (x' m' : zS) (f' : Nat → Int64), ST A' P' x' → SM A' P' m' → zV X D 8 (cells + 3) (slots + 18) (zLW a bm g o (x', m', f')) 1077 (lvH b a bm o i) []) : zV X D 8 cells slots (zLW a bm g o (x, m, f)) 128 (lvH b a bm o i) [] := by
  refine z_aload_n C 1 dL_law_128 rfl ?_
  refine z_aload_n C 3 dL_law_129 rfl ?_
  refine z_fw C hR hL CL (wr := WM bm g m) (wf := zWO a g o) (u0 := (x, f)) (As := [.ref (a 0), .ref o]) (c_L_station l hst D a g ea o x f  (oStation A P) (X_station hx )) gL_law_L_station rfl ⟨by decide +kernel, by decide +kernel, (show (parseMethodDescriptor yL_station.desc).map (fun d => d.parameters.length) = some 2 from by decide +kernel)⟩ ⟨Nat.le_of_ble_eq_true rfl, Nat.le_of_ble_eq_true rfl⟩ ⟨Nat.le_trans (Nat.add_le_add_left (Nat.le_of_ble_eq_true rfl) _) hc, Nat.le_trans (Nat.add_le_add_left (Nat.le_of_ble_eq_true rfl) _) hs⟩ rfl (Nat.le_of_ble_eq_true rfl) dL_law_130 (fun k u hk => ?_)
  obtain ⟨x1, f1⟩ := u
  obtain ⟨hk1, hk3, hk0, hx1⟩ := hk
  refine z_widen (k := cells + 3) (n := slots + 18) (Nat.add_le_add_left (Nat.le_of_ble_eq_true rfl) _) (Nat.add_le_add_left (Nat.le_of_ble_eq_true rfl) _) ?_
  refine z_istore (lv' := [(5, .int k), (0, .ref b), (1, .ref (a 0)), (2, .ref (bm 0)), (3, .ref o), (4, .int i)]) C dL_law_133 (by decide) rfl ?_
  refine z_swap (wa := WM bm g m) (wb := zWO a g o (x1, f1)) ?_
  refine z_aload_n C 3 dL_law_135 rfl ?_
  refine z_fi C hR hL (wr := zWO a g o (x1, f1)) (wf := WM bm g) (u0 := m) (As := []) (c_X5_station l D bm g m  _ (M_station hm )) gL_law_X5_station rfl ⟨by decide +kernel, by decide +kernel, (show (parseMethodDescriptor yX5_station.desc).map (fun d => d.parameters.length) = some 0 from by decide +kernel)⟩ ⟨Nat.le_of_ble_eq_true rfl, Nat.le_of_ble_eq_true rfl⟩ ⟨hc, hs⟩ 0 5 rfl rfl rfl rfl (Nat.le_of_ble_eq_true rfl) dL_law_136 (fun r m1 hr => ?_)
  obtain ⟨hr5, hr0, hm1⟩ := hr
  refine z_widen (k := cells + 3) (n := slots + 18) (Nat.le_refl _) (Nat.le_refl _) ?_
  refine z_istore (lv' := [(6, .int r), (5, .int k), (0, .ref b), (1, .ref (a 0)), (2, .ref (bm 0)), (3, .ref o), (4, .int i)]) C dL_law_139 (by decide) rfl ?_
  refine z_aload_n C 4 dL_law_141 rfl ?_
  refine z_fi C hR hL (wr := zWO a g o (x1, f1)) (wf := WM bm g) (u0 := m1) (As := []) (c_X5_thrown l D bm g m1 (fun t => t = gI m1 5) rfl) gL_law_X5_thrown rfl ⟨by decide +kernel, by decide +kernel, (show (parseMethodDescriptor yX5_thrown.desc).map (fun d => d.parameters.length) = some 0 from by decide +kernel)⟩ ⟨Nat.le_of_ble_eq_true rfl, Nat.le_of_ble_eq_true rfl⟩ ⟨hc, hs⟩ 0 5 rfl rfl rfl rfl (Nat.le_of_ble_eq_true rfl) dL_law_142 (fun t m2 ht => ?_)
  obtain ⟨rfl, ht⟩ := ht
  refine z_widen (k := cells + 3) (n := slots + 18) (Nat.le_refl _) (Nat.le_refl _) ?_
  refine z_iload C 1 dL_law_145 rfl ?_
  refine z_icmp_eq C 152 dL_law_147 (by decide) (fun _ => ?_) (fun hn => absurd (ht.trans (hr5.trans hk1.symm)) hn)
  have hE : zV X D 8 (cells + 3) (slots + 18) (zWO a g o (x1, f1) ++ WM bm g m1) 169 [(6, .int r), (5, .int k), (0, .ref b), (1, .ref (a 0)), (2, .ref (bm 0)), (3, .ref o), (4, .int i)] [] := by
    refine z_goto C 1077 dL_law_169 (by decide) ?_
    refine z_sub (lv' := lvH b a bm o i) [2, 3, 4, 5, 6] rfl ?_
    exact z_swap (wa := zWO a g o (x1, f1)) (wb := WM bm g m1) (K _ _ x1 m1 f1 hx1 hm1)
  refine z_iload C 1 dL_law_152 rfl ?_
  refine z_if_ne C 169 dL_law_154 (by decide) (fun _ => hE) (fun hz => ?_)
  have ho := wp_zero hk1 hk3 hz
  refine z_aload_n C 5 dL_law_157 rfl ?_
  refine z_iconst C 0 dL_law_158 (by decide) ?_
  refine z_lald C 0 2 rfl rfl (show ¬ (_ ∨ _) from by decide) dL_law_159 ?_
  refine z_iload C 0 dL_law_160 rfl ?_
  refine z_i2l C dL_law_162 ?_
  exact z_lcmp_eq C 169 dL_law_163 dL_law_164 (by decide) (fun _ => hE) (fun hn => absurd ((hk0 ho).trans (hr0 ho).symm) hn)
set_option maxHeartbeats 4000000 in
set_option maxRecDepth 100000 in
theorem law_c1 (hst : l.stackTraces = false) (C : zC X D 8 code RL wsL_law (zT g)) (hR : zR X room_1) (hL : zL X l) (CL : zCL X ea) (SC : zSc X b L xs) {A : zNt} {P : zPa} {x m : zS} {f : Nat → Int64} (hx : ST A P x) (hm : SM A P m) {i : Int32} (hin : ∀ v : Int32, 0 ≤ v.toInt → v.toInt ≤ 4 → vp_in (i + v) L) (hc : cells + 3 ≤ 658665) (hs : slots + 18 ≤ 7120110)
    (K : ∀ (A' : zNt) (P' : zPa) (x' m' : zS) (f' : Nat → Int64), ST A' P' x' → SM A' P' m' → zV X D 8 (cells + 3) (slots + 18) (zLW a bm g o (x', m', f')) 1077 (lvH b a bm o i) []) : zV X D 8 cells slots (zLW a bm g o (x, m, f)) 172 (lvH b a bm o i) [] := by
  refine z_aload_n C 1 dL_law_172 rfl ?_
  refine z_arg C SC 0 4 1 rfl rfl (by decide) (hin 1 (by decide) (by decide)) dL_law_173 dL_law_174 dL_law_176 dL_law_177 dL_law_178 ?_
  refine z_arg C SC 0 4 2 rfl rfl (by decide) (hin 2 (by decide) (by decide)) dL_law_179 dL_law_180 dL_law_182 dL_law_183 dL_law_184 ?_
  refine z_arg C SC 0 4 3 rfl rfl (by decide) (hin 3 (by decide) (by decide)) dL_law_185 dL_law_186 dL_law_188 dL_law_189 dL_law_190 ?_
  refine z_bool C dL_law_191 dL_law_194 dL_law_195 dL_law_198 ?_
  refine z_aload_n C 3 dL_law_199 rfl ?_
  refine z_fw C hR hL CL (wr := WM bm g m) (wf := zWO a g o) (u0 := (x, f)) (As := [.ref (a 0), .int (xs (i + 1).toNatClampNeg), .int (xs (i + 2).toNatClampNeg), .int (bI (decide ((xs (i + 3).toNatClampNeg) ≠ 0))), .ref o]) (c_L_datum l hst D a g ea o x f (xs (i + 1).toNatClampNeg) (xs (i + 2).toNatClampNeg) (bI (decide ((xs (i + 3).toNatClampNeg) ≠ 0))) (oDatum A P (xs (i + 1).toNatClampNeg) (xs (i + 2).toNatClampNeg) (decide ((xs (i + 3).toNatClampNeg) ≠ 0))) (X_datum hx (xs (i + 1).toNatClampNeg) (xs (i + 2).toNatClampNeg) (decide ((xs (i + 3).toNatClampNeg) ≠ 0)))) gL_law_L_datum rfl ⟨by decide +kernel, by decide +kernel, (show (parseMethodDescriptor yL_datum.desc).map (fun d => d.parameters.length) = some 5 from by decide +kernel)⟩ ⟨Nat.le_of_ble_eq_true rfl, Nat.le_of_ble_eq_true rfl⟩ ⟨Nat.le_trans (Nat.add_le_add_left (Nat.le_of_ble_eq_true rfl) _) hc, Nat.le_trans (Nat.add_le_add_left (Nat.le_of_ble_eq_true rfl) _) hs⟩ rfl (Nat.le_of_ble_eq_true rfl) dL_law_200 (fun k u hk => ?_)
  obtain ⟨x1, f1⟩ := u
  obtain ⟨hk1, hk3, hk0, hx1⟩ := hk
  refine z_widen (k := cells + 3) (n := slots + 18) (Nat.add_le_add_left (Nat.le_of_ble_eq_true rfl) _) (Nat.add_le_add_left (Nat.le_of_ble_eq_true rfl) _) ?_
  refine z_istore (lv' := [(5, .int k), (0, .ref b), (1, .ref (a 0)), (2, .ref (bm 0)), (3, .ref o), (4, .int i)]) C dL_law_203 (by decide) rfl ?_
  refine z_swap (wa := WM bm g m) (wb := zWO a g o (x1, f1)) ?_
  refine z_aload_n C 3 dL_law_205 rfl ?_
  refine z_arg C SC 1 5 1 rfl rfl (by decide) (hin 1 (by decide) (by decide)) dL_law_206 dL_law_207 dL_law_209 dL_law_210 dL_law_211 ?_
  refine z_arg C SC 1 5 2 rfl rfl (by decide) (hin 2 (by decide) (by decide)) dL_law_212 dL_law_213 dL_law_215 dL_law_216 dL_law_217 ?_
  refine z_arg C SC 1 5 3 rfl rfl (by decide) (hin 3 (by decide) (by decide)) dL_law_218 dL_law_219 dL_law_221 dL_law_222 dL_law_223 ?_
  refine z_bool C dL_law_224 dL_law_227 dL_law_228 dL_law_231 ?_
  refine z_fi C hR hL (wr := zWO a g o (x1, f1)) (wf := WM bm g) (u0 := m) (As := [.int (xs (i + 1).toNatClampNeg), .int (xs (i + 2).toNatClampNeg), .int (bI (decide ((xs (i + 3).toNatClampNeg) ≠ 0)))]) (c_X5_datum l D bm g m (xs (i + 1).toNatClampNeg) (xs (i + 2).toNatClampNeg) (bI (decide ((xs (i + 3).toNatClampNeg) ≠ 0))) _ (M_datum hm (xs (i + 1).toNatClampNeg) (xs (i + 2).toNatClampNeg) (decide ((xs (i + 3).toNatClampNeg) ≠ 0)))) gL_law_X5_datum rfl ⟨by decide +kernel, by decide +kernel, (show (parseMethodDescriptor yX5_datum.desc).map (fun d => d.parameters.length) = some 3 from by decide +kernel)⟩ ⟨Nat.le_of_ble_eq_true rfl, Nat.le_of_ble_eq_true rfl⟩ ⟨hc, hs⟩ 0 5 rfl rfl rfl rfl (Nat.le_of_ble_eq_true rfl) dL_law_232 (fun r m1 hr => ?_)
  obtain ⟨hr5, hr0, hm1⟩ := hr
  refine z_widen (k := cells + 3) (n := slots + 18) (Nat.le_refl _) (Nat.le_refl _) ?_
  refine z_istore (lv' := [(6, .int r), (5, .int k), (0, .ref b), (1, .ref (a 0)), (2, .ref (bm 0)), (3, .ref o), (4, .int i)]) C dL_law_235 (by decide) rfl ?_
  refine z_aload_n C 4 dL_law_237 rfl ?_
  refine z_fi C hR hL (wr := zWO a g o (x1, f1)) (wf := WM bm g) (u0 := m1) (As := []) (c_X5_thrown l D bm g m1 (fun t => t = gI m1 5) rfl) gL_law_X5_thrown rfl ⟨by decide +kernel, by decide +kernel, (show (parseMethodDescriptor yX5_thrown.desc).map (fun d => d.parameters.length) = some 0 from by decide +kernel)⟩ ⟨Nat.le_of_ble_eq_true rfl, Nat.le_of_ble_eq_true rfl⟩ ⟨hc, hs⟩ 0 5 rfl rfl rfl rfl (Nat.le_of_ble_eq_true rfl) dL_law_238 (fun t m2 ht => ?_)
  obtain ⟨rfl, ht⟩ := ht
  refine z_widen (k := cells + 3) (n := slots + 18) (Nat.le_refl _) (Nat.le_refl _) ?_
  refine z_iload C 1 dL_law_241 rfl ?_
  refine z_icmp_eq C 248 dL_law_243 (by decide) (fun _ => ?_) (fun hn => absurd (ht.trans (hr5.trans hk1.symm)) hn)
  have hE : zV X D 8 (cells + 3) (slots + 18) (zWO a g o (x1, f1) ++ WM bm g m1) 272 [(6, .int r), (5, .int k), (0, .ref b), (1, .ref (a 0)), (2, .ref (bm 0)), (3, .ref o), (4, .int i)] [] := by
    refine z_goto C 1077 dL_law_272 (by decide) ?_
    refine z_sub (lv' := lvH b a bm o i) [2, 3, 4, 5, 6] rfl ?_
    exact z_swap (wa := zWO a g o (x1, f1)) (wb := WM bm g m1) (K _ _ x1 m1 f1 hx1 hm1)
  refine z_iload C 1 dL_law_248 rfl ?_
  refine z_if_ne C 272 dL_law_250 (by decide) (fun _ => hE) (fun hz => ?_)
  have ho := wp_zero hk1 hk3 hz
  refine z_aload_n C 5 dL_law_253 rfl ?_
  refine z_iconst C 0 dL_law_254 (by decide) ?_
  refine z_lald C 0 2 rfl rfl (show ¬ (_ ∨ _) from by decide) dL_law_255 ?_
  refine z_iload C 0 dL_law_256 rfl ?_
  refine z_boolL C dL_law_258 dL_law_261 dL_law_262 dL_law_265 ?_
  exact z_lcmp_eq C 272 dL_law_266 dL_law_267 (by decide) (fun _ => hE) (fun hn => absurd ((hk0 ho).trans (hr0 ho).symm) hn)
set_option maxHeartbeats 4000000 in
set_option maxRecDepth 100000 in
theorem law_c2 (hst : l.stackTraces = false) (C : zC X D 8 code RL wsL_law (zT g)) (hR : zR X room_1) (hL : zL X l) (CL : zCL X ea) (SC : zSc X b L xs) {A : zNt} {P : zPa} {x m : zS} {f : Nat → Int64} (hx : ST A P x) (hm : SM A P m) {i : Int32} (hin : ∀ v : Int32, 0 ≤ v.toInt → v.toInt ≤ 4 → vp_in (i + v) L) (hc : cells + 3 ≤ 658665) (hs : slots + 18 ≤ 7120110)
    (K : ∀ (A' : zNt) (P' : zPa) (x' m' : zS) (f' : Nat → Int64), ST A' P' x' → SM A' P' m' → zV X D 8 (cells + 3) (slots + 18) (zLW a bm g o (x', m', f')) 1077 (lvH b a bm o i) []) : zV X D 8 cells slots (zLW a bm g o (x, m, f)) 275 (lvH b a bm o i) [] := by
  refine z_aload_n C 1 dL_law_275 rfl ?_
  refine z_arg C SC 0 4 1 rfl rfl (by decide) (hin 1 (by decide) (by decide)) dL_law_276 dL_law_277 dL_law_279 dL_law_280 dL_law_281 ?_
  refine z_arg C SC 0 4 2 rfl rfl (by decide) (hin 2 (by decide) (by decide)) dL_law_282 dL_law_283 dL_law_285 dL_law_286 dL_law_287 ?_
  refine z_arg C SC 0 4 3 rfl rfl (by decide) (hin 3 (by decide) (by decide)) dL_law_288 dL_law_289 dL_law_291 dL_law_292 dL_law_293 ?_
  refine z_arg C SC 0 4 4 rfl rfl (by decide) (hin 4 (by decide) (by decide)) dL_law_294 dL_law_295 dL_law_297 dL_law_298 dL_law_299 ?_
  refine z_aload_n C 3 dL_law_300 rfl ?_
  refine z_fw C hR hL CL (wr := WM bm g m) (wf := zWO a g o) (u0 := (x, f)) (As := [.ref (a 0), .int (xs (i + 1).toNatClampNeg), .int (xs (i + 2).toNatClampNeg), .int (xs (i + 3).toNatClampNeg), .int (xs (i + 4).toNatClampNeg), .ref o]) (c_L_observe l hst D a g ea o x f (xs (i + 1).toNatClampNeg) (xs (i + 2).toNatClampNeg) (xs (i + 3).toNatClampNeg) (xs (i + 4).toNatClampNeg) (oObserve A P (xs (i + 1).toNatClampNeg) (xs (i + 2).toNatClampNeg) (xs (i + 3).toNatClampNeg) (xs (i + 4).toNatClampNeg)) (X_observe hx (xs (i + 1).toNatClampNeg) (xs (i + 2).toNatClampNeg) (xs (i + 3).toNatClampNeg) (xs (i + 4).toNatClampNeg))) gL_law_L_observe rfl ⟨by decide +kernel, by decide +kernel, (show (parseMethodDescriptor yL_observe.desc).map (fun d => d.parameters.length) = some 6 from by decide +kernel)⟩ ⟨Nat.le_of_ble_eq_true rfl, Nat.le_of_ble_eq_true rfl⟩ ⟨Nat.le_trans (Nat.add_le_add_left (Nat.le_of_ble_eq_true rfl) _) hc, Nat.le_trans (Nat.add_le_add_left (Nat.le_of_ble_eq_true rfl) _) hs⟩ rfl (Nat.le_of_ble_eq_true rfl) dL_law_301 (fun k u hk => ?_)
  obtain ⟨x1, f1⟩ := u
  obtain ⟨hk1, hk3, hk0, hx1⟩ := hk
  refine z_widen (k := cells + 3) (n := slots + 18) (Nat.add_le_add_left (Nat.le_of_ble_eq_true rfl) _) (Nat.add_le_add_left (Nat.le_of_ble_eq_true rfl) _) ?_
  refine z_istore (lv' := [(5, .int k), (0, .ref b), (1, .ref (a 0)), (2, .ref (bm 0)), (3, .ref o), (4, .int i)]) C dL_law_304 (by decide) rfl ?_
  refine z_swap (wa := WM bm g m) (wb := zWO a g o (x1, f1)) ?_
  refine z_aload_n C 3 dL_law_306 rfl ?_
  refine z_arg C SC 1 5 1 rfl rfl (by decide) (hin 1 (by decide) (by decide)) dL_law_307 dL_law_308 dL_law_310 dL_law_311 dL_law_312 ?_
  refine z_arg C SC 1 5 2 rfl rfl (by decide) (hin 2 (by decide) (by decide)) dL_law_313 dL_law_314 dL_law_316 dL_law_317 dL_law_318 ?_
  refine z_arg C SC 1 5 3 rfl rfl (by decide) (hin 3 (by decide) (by decide)) dL_law_319 dL_law_320 dL_law_322 dL_law_323 dL_law_324 ?_
  refine z_arg C SC 1 5 4 rfl rfl (by decide) (hin 4 (by decide) (by decide)) dL_law_325 dL_law_326 dL_law_328 dL_law_329 dL_law_330 ?_
  refine z_fi C hR hL (wr := zWO a g o (x1, f1)) (wf := WM bm g) (u0 := m) (As := [.int (xs (i + 1).toNatClampNeg), .int (xs (i + 2).toNatClampNeg), .int (xs (i + 3).toNatClampNeg), .int (xs (i + 4).toNatClampNeg)]) (c_X5_observe l D bm g m (xs (i + 1).toNatClampNeg) (xs (i + 2).toNatClampNeg) (xs (i + 3).toNatClampNeg) (xs (i + 4).toNatClampNeg) _ (M_observe hm (xs (i + 1).toNatClampNeg) (xs (i + 2).toNatClampNeg) (xs (i + 3).toNatClampNeg) (xs (i + 4).toNatClampNeg))) gL_law_X5_observe rfl ⟨by decide +kernel, by decide +kernel, (show (parseMethodDescriptor yX5_observe.desc).map (fun d => d.parameters.length) = some 4 from by decide +kernel)⟩ ⟨Nat.le_of_ble_eq_true rfl, Nat.le_of_ble_eq_true rfl⟩ ⟨hc, hs⟩ 0 5 rfl rfl rfl rfl (Nat.le_of_ble_eq_true rfl) dL_law_331 (fun r m1 hr => ?_)
  obtain ⟨hr5, hr0, hm1⟩ := hr
  refine z_widen (k := cells + 3) (n := slots + 18) (Nat.le_refl _) (Nat.le_refl _) ?_
  refine z_istore (lv' := [(6, .int r), (5, .int k), (0, .ref b), (1, .ref (a 0)), (2, .ref (bm 0)), (3, .ref o), (4, .int i)]) C dL_law_334 (by decide) rfl ?_
  refine z_aload_n C 4 dL_law_336 rfl ?_
  refine z_fi C hR hL (wr := zWO a g o (x1, f1)) (wf := WM bm g) (u0 := m1) (As := []) (c_X5_thrown l D bm g m1 (fun t => t = gI m1 5) rfl) gL_law_X5_thrown rfl ⟨by decide +kernel, by decide +kernel, (show (parseMethodDescriptor yX5_thrown.desc).map (fun d => d.parameters.length) = some 0 from by decide +kernel)⟩ ⟨Nat.le_of_ble_eq_true rfl, Nat.le_of_ble_eq_true rfl⟩ ⟨hc, hs⟩ 0 5 rfl rfl rfl rfl (Nat.le_of_ble_eq_true rfl) dL_law_337 (fun t m2 ht => ?_)
  obtain ⟨rfl, ht⟩ := ht
  refine z_widen (k := cells + 3) (n := slots + 18) (Nat.le_refl _) (Nat.le_refl _) ?_
  refine z_iload C 1 dL_law_340 rfl ?_
  refine z_icmp_eq C 347 dL_law_342 (by decide) (fun _ => ?_) (fun hn => absurd (ht.trans (hr5.trans hk1.symm)) hn)
  have hE : zV X D 8 (cells + 3) (slots + 18) (zWO a g o (x1, f1) ++ WM bm g m1) 364 [(6, .int r), (5, .int k), (0, .ref b), (1, .ref (a 0)), (2, .ref (bm 0)), (3, .ref o), (4, .int i)] [] := by
    refine z_goto C 1077 dL_law_364 (by decide) ?_
    refine z_sub (lv' := lvH b a bm o i) [2, 3, 4, 5, 6] rfl ?_
    exact z_swap (wa := zWO a g o (x1, f1)) (wb := WM bm g m1) (K _ _ x1 m1 f1 hx1 hm1)
  refine z_iload C 1 dL_law_347 rfl ?_
  refine z_if_ne C 364 dL_law_349 (by decide) (fun _ => hE) (fun hz => ?_)
  have ho := wp_zero hk1 hk3 hz
  refine z_aload_n C 5 dL_law_352 rfl ?_
  refine z_iconst C 0 dL_law_353 (by decide) ?_
  refine z_lald C 0 2 rfl rfl (show ¬ (_ ∨ _) from by decide) dL_law_354 ?_
  refine z_iload C 0 dL_law_355 rfl ?_
  refine z_i2l C dL_law_357 ?_
  exact z_lcmp_eq C 364 dL_law_358 dL_law_359 (by decide) (fun _ => hE) (fun hn => absurd ((hk0 ho).trans (hr0 ho).symm) hn)
set_option maxHeartbeats 4000000 in
set_option maxRecDepth 100000 in
theorem law_c3 (hst : l.stackTraces = false) (C : zC X D 8 code RL wsL_law (zT g)) (hR : zR X room_1) (hL : zL X l) (CL : zCL X ea) (SC : zSc X b L xs) {A : zNt} {P : zPa} {x m : zS} {f : Nat → Int64} (hx : ST A P x) (hm : SM A P m) {i : Int32} (hin : ∀ v : Int32, 0 ≤ v.toInt → v.toInt ≤ 4 → vp_in (i + v) L) (hc : cells + 3 ≤ 658665) (hs : slots + 18 ≤ 7120110)
    (K : ∀ (A' : zNt) (P' : zPa) (x' m' : zS) (f' : Nat → Int64), ST A' P' x' → SM A' P' m' → zV X D 8 (cells + 3) (slots + 18) (zLW a bm g o (x', m', f')) 1077 (lvH b a bm o i) []) : zV X D 8 cells slots (zLW a bm g o (x, m, f)) 367 (lvH b a bm o i) [] := by
  refine z_aload_n C 1 dL_law_367 rfl ?_
  refine z_arg C SC 0 4 1 rfl rfl (by decide) (hin 1 (by decide) (by decide)) dL_law_368 dL_law_369 dL_law_371 dL_law_372 dL_law_373 ?_
  refine z_arg C SC 0 4 2 rfl rfl (by decide) (hin 2 (by decide) (by decide)) dL_law_374 dL_law_375 dL_law_377 dL_law_378 dL_law_379 ?_
  refine z_bool C dL_law_380 dL_law_383 dL_law_384 dL_law_387 ?_
  refine z_aload_n C 3 dL_law_388 rfl ?_
  refine z_fw C hR hL CL (wr := WM bm g m) (wf := zWO a g o) (u0 := (x, f)) (As := [.ref (a 0), .int (xs (i + 1).toNatClampNeg), .int (bI (decide ((xs (i + 2).toNatClampNeg) ≠ 0))), .ref o]) (c_L_withdraw l hst D a g ea o x f (xs (i + 1).toNatClampNeg) (bI (decide ((xs (i + 2).toNatClampNeg) ≠ 0))) (oWithdraw A P (xs (i + 1).toNatClampNeg) (decide ((xs (i + 2).toNatClampNeg) ≠ 0))) (X_withdraw hx (xs (i + 1).toNatClampNeg) (decide ((xs (i + 2).toNatClampNeg) ≠ 0)))) gL_law_L_withdraw rfl ⟨by decide +kernel, by decide +kernel, (show (parseMethodDescriptor yL_withdraw.desc).map (fun d => d.parameters.length) = some 4 from by decide +kernel)⟩ ⟨Nat.le_of_ble_eq_true rfl, Nat.le_of_ble_eq_true rfl⟩ ⟨Nat.le_trans (Nat.add_le_add_left (Nat.le_of_ble_eq_true rfl) _) hc, Nat.le_trans (Nat.add_le_add_left (Nat.le_of_ble_eq_true rfl) _) hs⟩ rfl (Nat.le_of_ble_eq_true rfl) dL_law_389 (fun k u hk => ?_)
  obtain ⟨x1, f1⟩ := u
  obtain ⟨hk1, hk3, hk0, hx1⟩ := hk
  refine z_widen (k := cells + 3) (n := slots + 18) (Nat.add_le_add_left (Nat.le_of_ble_eq_true rfl) _) (Nat.add_le_add_left (Nat.le_of_ble_eq_true rfl) _) ?_
  refine z_istore (lv' := [(5, .int k), (0, .ref b), (1, .ref (a 0)), (2, .ref (bm 0)), (3, .ref o), (4, .int i)]) C dL_law_392 (by decide) rfl ?_
  refine z_swap (wa := WM bm g m) (wb := zWO a g o (x1, f1)) ?_
  refine z_aload_n C 3 dL_law_394 rfl ?_
  refine z_arg C SC 1 5 1 rfl rfl (by decide) (hin 1 (by decide) (by decide)) dL_law_395 dL_law_396 dL_law_398 dL_law_399 dL_law_400 ?_
  refine z_arg C SC 1 5 2 rfl rfl (by decide) (hin 2 (by decide) (by decide)) dL_law_401 dL_law_402 dL_law_404 dL_law_405 dL_law_406 ?_
  refine z_bool C dL_law_407 dL_law_410 dL_law_411 dL_law_414 ?_
  refine z_fi C hR hL (wr := zWO a g o (x1, f1)) (wf := WM bm g) (u0 := m) (As := [.int (xs (i + 1).toNatClampNeg), .int (bI (decide ((xs (i + 2).toNatClampNeg) ≠ 0)))]) (c_X5_withdraw l D bm g m (xs (i + 1).toNatClampNeg) (bI (decide ((xs (i + 2).toNatClampNeg) ≠ 0))) _ (M_withdraw hm (xs (i + 1).toNatClampNeg) (decide ((xs (i + 2).toNatClampNeg) ≠ 0)))) gL_law_X5_withdraw rfl ⟨by decide +kernel, by decide +kernel, (show (parseMethodDescriptor yX5_withdraw.desc).map (fun d => d.parameters.length) = some 2 from by decide +kernel)⟩ ⟨Nat.le_of_ble_eq_true rfl, Nat.le_of_ble_eq_true rfl⟩ ⟨hc, hs⟩ 0 5 rfl rfl rfl rfl (Nat.le_of_ble_eq_true rfl) dL_law_415 (fun r m1 hr => ?_)
  obtain ⟨hr5, hr0, hm1⟩ := hr
  refine z_widen (k := cells + 3) (n := slots + 18) (Nat.le_refl _) (Nat.le_refl _) ?_
  refine z_istore (lv' := [(6, .int r), (5, .int k), (0, .ref b), (1, .ref (a 0)), (2, .ref (bm 0)), (3, .ref o), (4, .int i)]) C dL_law_418 (by decide) rfl ?_
  refine z_aload_n C 4 dL_law_420 rfl ?_
  refine z_fi C hR hL (wr := zWO a g o (x1, f1)) (wf := WM bm g) (u0 := m1) (As := []) (c_X5_thrown l D bm g m1 (fun t => t = gI m1 5) rfl) gL_law_X5_thrown rfl ⟨by decide +kernel, by decide +kernel, (show (parseMethodDescriptor yX5_thrown.desc).map (fun d => d.parameters.length) = some 0 from by decide +kernel)⟩ ⟨Nat.le_of_ble_eq_true rfl, Nat.le_of_ble_eq_true rfl⟩ ⟨hc, hs⟩ 0 5 rfl rfl rfl rfl (Nat.le_of_ble_eq_true rfl) dL_law_421 (fun t m2 ht => ?_)
  obtain ⟨rfl, ht⟩ := ht
  refine z_widen (k := cells + 3) (n := slots + 18) (Nat.le_refl _) (Nat.le_refl _) ?_
  refine z_iload C 1 dL_law_424 rfl ?_
  refine z_icmp_eq C 431 dL_law_426 (by decide) (fun _ => ?_) (fun hn => absurd (ht.trans (hr5.trans hk1.symm)) hn)
  have hE : zV X D 8 (cells + 3) (slots + 18) (zWO a g o (x1, f1) ++ WM bm g m1) 455 [(6, .int r), (5, .int k), (0, .ref b), (1, .ref (a 0)), (2, .ref (bm 0)), (3, .ref o), (4, .int i)] [] := by
    refine z_goto C 1077 dL_law_455 (by decide) ?_
    refine z_sub (lv' := lvH b a bm o i) [2, 3, 4, 5, 6] rfl ?_
    exact z_swap (wa := zWO a g o (x1, f1)) (wb := WM bm g m1) (K _ _ x1 m1 f1 hx1 hm1)
  refine z_iload C 1 dL_law_431 rfl ?_
  refine z_if_ne C 455 dL_law_433 (by decide) (fun _ => hE) (fun hz => ?_)
  have ho := wp_zero hk1 hk3 hz
  refine z_aload_n C 5 dL_law_436 rfl ?_
  refine z_iconst C 0 dL_law_437 (by decide) ?_
  refine z_lald C 0 2 rfl rfl (show ¬ (_ ∨ _) from by decide) dL_law_438 ?_
  refine z_iload C 0 dL_law_439 rfl ?_
  refine z_boolL C dL_law_441 dL_law_444 dL_law_445 dL_law_448 ?_
  exact z_lcmp_eq C 455 dL_law_449 dL_law_450 (by decide) (fun _ => hE) (fun hn => absurd ((hk0 ho).trans (hr0 ho).symm) hn)
set_option maxHeartbeats 4000000 in
set_option maxRecDepth 100000 in
theorem law_c4 (hst : l.stackTraces = false) (C : zC X D 8 code RL wsL_law (zT g)) (hR : zR X room_1) (hL : zL X l) (CL : zCL X ea) (SC : zSc X b L xs) {A : zNt} {P : zPa} {x m : zS} {f : Nat → Int64} (hx : ST A P x) (hm : SM A P m) {i : Int32} (hin : ∀ v : Int32, 0 ≤ v.toInt → v.toInt ≤ 4 → vp_in (i + v) L) (hc : cells + 3 ≤ 658665) (hs : slots + 18 ≤ 7120110)
    (K : ∀ (A' : zNt) (P' : zPa) (x' m' : zS) (f' : Nat → Int64), ST A' P' x' → SM A' P' m' → zV X D 8 (cells + 3) (slots + 18) (zLW a bm g o (x', m', f')) 1077 (lvH b a bm o i) []) : zV X D 8 cells slots (zLW a bm g o (x, m, f)) 458 (lvH b a bm o i) [] := by
  refine z_aload_n C 1 dL_law_458 rfl ?_
  refine z_arg C SC 0 4 1 rfl rfl (by decide) (hin 1 (by decide) (by decide)) dL_law_459 dL_law_460 dL_law_462 dL_law_463 dL_law_464 ?_
  refine z_aload_n C 3 dL_law_465 rfl ?_
  refine z_fw C hR hL CL (wr := WM bm g m) (wf := zWO a g o) (u0 := (x, f)) (As := [.ref (a 0), .int (xs (i + 1).toNatClampNeg), .ref o]) (c_L_clean l hst D a g ea o x f (xs (i + 1).toNatClampNeg) (oClean A P (xs (i + 1).toNatClampNeg)) (X_clean hx (xs (i + 1).toNatClampNeg))) gL_law_L_clean rfl ⟨by decide +kernel, by decide +kernel, (show (parseMethodDescriptor yL_clean.desc).map (fun d => d.parameters.length) = some 3 from by decide +kernel)⟩ ⟨Nat.le_of_ble_eq_true rfl, Nat.le_of_ble_eq_true rfl⟩ ⟨Nat.le_trans (Nat.add_le_add_left (Nat.le_of_ble_eq_true rfl) _) hc, Nat.le_trans (Nat.add_le_add_left (Nat.le_of_ble_eq_true rfl) _) hs⟩ rfl (Nat.le_of_ble_eq_true rfl) dL_law_466 (fun k u hk => ?_)
  obtain ⟨x1, f1⟩ := u
  obtain ⟨hk1, hk3, hk0, hx1⟩ := hk
  refine z_widen (k := cells + 3) (n := slots + 18) (Nat.add_le_add_left (Nat.le_of_ble_eq_true rfl) _) (Nat.add_le_add_left (Nat.le_of_ble_eq_true rfl) _) ?_
  refine z_istore (lv' := [(5, .int k), (0, .ref b), (1, .ref (a 0)), (2, .ref (bm 0)), (3, .ref o), (4, .int i)]) C dL_law_469 (by decide) rfl ?_
  refine z_swap (wa := WM bm g m) (wb := zWO a g o (x1, f1)) ?_
  refine z_aload_n C 3 dL_law_471 rfl ?_
  refine z_arg C SC 1 5 1 rfl rfl (by decide) (hin 1 (by decide) (by decide)) dL_law_472 dL_law_473 dL_law_475 dL_law_476 dL_law_477 ?_
  refine z_fi C hR hL (wr := zWO a g o (x1, f1)) (wf := WM bm g) (u0 := m) (As := [.int (xs (i + 1).toNatClampNeg)]) (c_X5_clean l D bm g m (xs (i + 1).toNatClampNeg) _ (M_clean hm (xs (i + 1).toNatClampNeg))) gL_law_X5_clean rfl ⟨by decide +kernel, by decide +kernel, (show (parseMethodDescriptor yX5_clean.desc).map (fun d => d.parameters.length) = some 1 from by decide +kernel)⟩ ⟨Nat.le_of_ble_eq_true rfl, Nat.le_of_ble_eq_true rfl⟩ ⟨hc, hs⟩ 0 5 rfl rfl rfl rfl (Nat.le_of_ble_eq_true rfl) dL_law_478 (fun r m1 hr => ?_)
  obtain ⟨hr5, hr0, hm1⟩ := hr
  refine z_widen (k := cells + 3) (n := slots + 18) (Nat.le_refl _) (Nat.le_refl _) ?_
  refine z_istore (lv' := [(6, .int r), (5, .int k), (0, .ref b), (1, .ref (a 0)), (2, .ref (bm 0)), (3, .ref o), (4, .int i)]) C dL_law_481 (by decide) rfl ?_
  refine z_aload_n C 4 dL_law_483 rfl ?_
  refine z_fi C hR hL (wr := zWO a g o (x1, f1)) (wf := WM bm g) (u0 := m1) (As := []) (c_X5_thrown l D bm g m1 (fun t => t = gI m1 5) rfl) gL_law_X5_thrown rfl ⟨by decide +kernel, by decide +kernel, (show (parseMethodDescriptor yX5_thrown.desc).map (fun d => d.parameters.length) = some 0 from by decide +kernel)⟩ ⟨Nat.le_of_ble_eq_true rfl, Nat.le_of_ble_eq_true rfl⟩ ⟨hc, hs⟩ 0 5 rfl rfl rfl rfl (Nat.le_of_ble_eq_true rfl) dL_law_484 (fun t m2 ht => ?_)
  obtain ⟨rfl, ht⟩ := ht
  refine z_widen (k := cells + 3) (n := slots + 18) (Nat.le_refl _) (Nat.le_refl _) ?_
  refine z_iload C 1 dL_law_487 rfl ?_
  refine z_icmp_eq C 494 dL_law_489 (by decide) (fun _ => ?_) (fun hn => absurd (ht.trans (hr5.trans hk1.symm)) hn)
  have hE : zV X D 8 (cells + 3) (slots + 18) (zWO a g o (x1, f1) ++ WM bm g m1) 511 [(6, .int r), (5, .int k), (0, .ref b), (1, .ref (a 0)), (2, .ref (bm 0)), (3, .ref o), (4, .int i)] [] := by
    refine z_goto C 1077 dL_law_511 (by decide) ?_
    refine z_sub (lv' := lvH b a bm o i) [2, 3, 4, 5, 6] rfl ?_
    exact z_swap (wa := zWO a g o (x1, f1)) (wb := WM bm g m1) (K _ _ x1 m1 f1 hx1 hm1)
  refine z_iload C 1 dL_law_494 rfl ?_
  refine z_if_ne C 511 dL_law_496 (by decide) (fun _ => hE) (fun hz => ?_)
  have ho := wp_zero hk1 hk3 hz
  refine z_aload_n C 5 dL_law_499 rfl ?_
  refine z_iconst C 0 dL_law_500 (by decide) ?_
  refine z_lald C 0 2 rfl rfl (show ¬ (_ ∨ _) from by decide) dL_law_501 ?_
  refine z_iload C 0 dL_law_502 rfl ?_
  refine z_i2l C dL_law_504 ?_
  exact z_lcmp_eq C 511 dL_law_505 dL_law_506 (by decide) (fun _ => hE) (fun hn => absurd ((hk0 ho).trans (hr0 ho).symm) hn)
set_option maxHeartbeats 4000000 in
set_option maxRecDepth 100000 in
theorem law_c5 (hst : l.stackTraces = false) (C : zC X D 8 code RL wsL_law (zT g)) (hR : zR X room_1) (hL : zL X l) (CL : zCL X ea) (SC : zSc X b L xs) {A : zNt} {P : zPa} {x m : zS} {f : Nat → Int64} (hx : ST A P x) (hm : SM A P m) {i : Int32} (hin : ∀ v : Int32, 0 ≤ v.toInt → v.toInt ≤ 4 → vp_in (i + v) L) (hc : cells + 3 ≤ 658665) (hs : slots + 18 ≤ 7120110)
    (K : ∀ (A' : zNt) (P' : zPa) (x' m' : zS) (f' : Nat → Int64), ST A' P' x' → SM A' P' m' → zV X D 8 (cells + 3) (slots + 18) (zLW a bm g o (x', m', f')) 1077 (lvH b a bm o i) []) : zV X D 8 cells slots (zLW a bm g o (x, m, f)) 514 (lvH b a bm o i) [] := by
  refine z_aload_n C 1 dL_law_514 rfl ?_
  refine z_arg C SC 0 4 1 rfl rfl (by decide) (hin 1 (by decide) (by decide)) dL_law_515 dL_law_516 dL_law_518 dL_law_519 dL_law_520 ?_
  refine z_aload_n C 3 dL_law_521 rfl ?_
  refine z_fw C hR hL CL (wr := WM bm g m) (wf := zWO a g o) (u0 := (x, f)) (As := [.ref (a 0), .int (xs (i + 1).toNatClampNeg), .ref o]) (c_L_go l hst D a g ea o x f (xs (i + 1).toNatClampNeg) (oGo A P (xs (i + 1).toNatClampNeg)) (X_go hx (xs (i + 1).toNatClampNeg))) gL_law_L_go rfl ⟨by decide +kernel, by decide +kernel, (show (parseMethodDescriptor yL_go.desc).map (fun d => d.parameters.length) = some 3 from by decide +kernel)⟩ ⟨Nat.le_of_ble_eq_true rfl, Nat.le_of_ble_eq_true rfl⟩ ⟨Nat.le_trans (Nat.add_le_add_left (Nat.le_of_ble_eq_true rfl) _) hc, Nat.le_trans (Nat.add_le_add_left (Nat.le_of_ble_eq_true rfl) _) hs⟩ rfl (Nat.le_of_ble_eq_true rfl) dL_law_522 (fun k u hk => ?_)
  obtain ⟨x1, f1⟩ := u
  obtain ⟨hk1, hk3, hk0, hx1⟩ := hk
  refine z_widen (k := cells + 3) (n := slots + 18) (Nat.add_le_add_left (Nat.le_of_ble_eq_true rfl) _) (Nat.add_le_add_left (Nat.le_of_ble_eq_true rfl) _) ?_
  refine z_istore (lv' := [(5, .int k), (0, .ref b), (1, .ref (a 0)), (2, .ref (bm 0)), (3, .ref o), (4, .int i)]) C dL_law_525 (by decide) rfl ?_
  refine z_swap (wa := WM bm g m) (wb := zWO a g o (x1, f1)) ?_
  refine z_aload_n C 3 dL_law_527 rfl ?_
  refine z_arg C SC 1 5 1 rfl rfl (by decide) (hin 1 (by decide) (by decide)) dL_law_528 dL_law_529 dL_law_531 dL_law_532 dL_law_533 ?_
  refine z_fi C hR hL (wr := zWO a g o (x1, f1)) (wf := WM bm g) (u0 := m) (As := [.int (xs (i + 1).toNatClampNeg)]) (c_X5_go l D bm g m (xs (i + 1).toNatClampNeg) _ (M_go hm (xs (i + 1).toNatClampNeg))) gL_law_X5_go rfl ⟨by decide +kernel, by decide +kernel, (show (parseMethodDescriptor yX5_go.desc).map (fun d => d.parameters.length) = some 1 from by decide +kernel)⟩ ⟨Nat.le_of_ble_eq_true rfl, Nat.le_of_ble_eq_true rfl⟩ ⟨hc, hs⟩ 0 5 rfl rfl rfl rfl (Nat.le_of_ble_eq_true rfl) dL_law_534 (fun r m1 hr => ?_)
  obtain ⟨hr5, hr0, hm1⟩ := hr
  refine z_widen (k := cells + 3) (n := slots + 18) (Nat.le_refl _) (Nat.le_refl _) ?_
  refine z_istore (lv' := [(6, .int r), (5, .int k), (0, .ref b), (1, .ref (a 0)), (2, .ref (bm 0)), (3, .ref o), (4, .int i)]) C dL_law_537 (by decide) rfl ?_
  refine z_aload_n C 4 dL_law_539 rfl ?_
  refine z_fi C hR hL (wr := zWO a g o (x1, f1)) (wf := WM bm g) (u0 := m1) (As := []) (c_X5_thrown l D bm g m1 (fun t => t = gI m1 5) rfl) gL_law_X5_thrown rfl ⟨by decide +kernel, by decide +kernel, (show (parseMethodDescriptor yX5_thrown.desc).map (fun d => d.parameters.length) = some 0 from by decide +kernel)⟩ ⟨Nat.le_of_ble_eq_true rfl, Nat.le_of_ble_eq_true rfl⟩ ⟨hc, hs⟩ 0 5 rfl rfl rfl rfl (Nat.le_of_ble_eq_true rfl) dL_law_540 (fun t m2 ht => ?_)
  obtain ⟨rfl, ht⟩ := ht
  refine z_widen (k := cells + 3) (n := slots + 18) (Nat.le_refl _) (Nat.le_refl _) ?_
  refine z_iload C 1 dL_law_543 rfl ?_
  refine z_icmp_eq C 550 dL_law_545 (by decide) (fun _ => ?_) (fun hn => absurd (ht.trans (hr5.trans hk1.symm)) hn)
  have hE : zV X D 8 (cells + 3) (slots + 18) (zWO a g o (x1, f1) ++ WM bm g m1) 567 [(6, .int r), (5, .int k), (0, .ref b), (1, .ref (a 0)), (2, .ref (bm 0)), (3, .ref o), (4, .int i)] [] := by
    refine z_goto C 1077 dL_law_567 (by decide) ?_
    refine z_sub (lv' := lvH b a bm o i) [2, 3, 4, 5, 6] rfl ?_
    exact z_swap (wa := zWO a g o (x1, f1)) (wb := WM bm g m1) (K _ _ x1 m1 f1 hx1 hm1)
  refine z_iload C 1 dL_law_550 rfl ?_
  refine z_if_ne C 567 dL_law_552 (by decide) (fun _ => hE) (fun hz => ?_)
  have ho := wp_zero hk1 hk3 hz
  refine z_aload_n C 5 dL_law_555 rfl ?_
  refine z_iconst C 0 dL_law_556 (by decide) ?_
  refine z_lald C 0 2 rfl rfl (show ¬ (_ ∨ _) from by decide) dL_law_557 ?_
  refine z_iload C 0 dL_law_558 rfl ?_
  refine z_i2l C dL_law_560 ?_
  exact z_lcmp_eq C 567 dL_law_561 dL_law_562 (by decide) (fun _ => hE) (fun hn => absurd ((hk0 ho).trans (hr0 ho).symm) hn)
set_option maxHeartbeats 4000000 in
set_option maxRecDepth 100000 in
theorem law_c6 (hst : l.stackTraces = false) (C : zC X D 8 code RL wsL_law (zT g)) (hR : zR X room_1) (hL : zL X l) (CL : zCL X ea) (SC : zSc X b L xs) {A : zNt} {P : zPa} {x m : zS} {f : Nat → Int64} (hx : ST A P x) (hm : SM A P m) {i : Int32} (hin : ∀ v : Int32, 0 ≤ v.toInt → v.toInt ≤ 4 → vp_in (i + v) L) (hc : cells + 3 ≤ 658665) (hs : slots + 18 ≤ 7120110)
    (K : ∀ (A' : zNt) (P' : zPa) (x' m' : zS) (f' : Nat → Int64), ST A' P' x' → SM A' P' m' → zV X D 8 (cells + 3) (slots + 18) (zLW a bm g o (x', m', f')) 1077 (lvH b a bm o i) []) : zV X D 8 cells slots (zLW a bm g o (x, m, f)) 570 (lvH b a bm o i) [] := by
  refine z_aload_n C 1 dL_law_570 rfl ?_
  refine z_asl (wa := WM bm g m) (wb := [(o, .inl (g 2, 1, .inr (.inl f)))]) (wc := WX a g x) ?_
  refine z_fi C hR hL (wr := WM bm g m ++ [(o, .inl (g 2, 1, .inr (.inl f)))]) (wf := WX a g) (u0 := x) (st := []) (As := []) (c_X4_end l D a g x _ (X_end hx)) gL_law_X4_end rfl ⟨by decide +kernel, by decide +kernel, (show (parseMethodDescriptor yX4_end.desc).map (fun d => d.parameters.length) = some 0 from by decide +kernel)⟩ ⟨Nat.le_of_ble_eq_true rfl, Nat.le_of_ble_eq_true rfl⟩ ⟨Nat.le_trans (Nat.le_add_right _ 3) hc, Nat.le_trans (Nat.le_add_right _ 18) hs⟩ 0 4 rfl rfl rfl rfl (Nat.le_of_ble_eq_true rfl) dL_law_571 (fun r x1 hr => ?_)
  obtain ⟨hr, hx⟩ := hr
  refine z_widen (k := cells + 3) (n := slots + 18) (Nat.add_le_add_left (Nat.le_of_ble_eq_true rfl) _) (Nat.add_le_add_left (Nat.le_of_ble_eq_true rfl) _) ?_
  refine z_asr (wa := WM bm g m) (wb := [(o, .inl (g 2, 1, .inr (.inl f)))]) (wc := WX a g x1) ?_
  refine z_swap (wa := WM bm g m) (wb := zWO a g o (x1, f)) ?_
  refine z_aload_n C 2 dL_law_574 rfl ?_
  refine z_fi C hR hL (wr := zWO a g o (x1, f)) (wf := WM bm g) (u0 := m) (As := []) (c_X5_end l D bm g m _ (M_end hm)) gL_law_X5_end rfl ⟨by decide +kernel, by decide +kernel, (show (parseMethodDescriptor yX5_end.desc).map (fun d => d.parameters.length) = some 0 from by decide +kernel)⟩ ⟨Nat.le_of_ble_eq_true rfl, Nat.le_of_ble_eq_true rfl⟩ ⟨hc, hs⟩ 0 5 rfl rfl rfl rfl (Nat.le_of_ble_eq_true rfl) dL_law_575 (fun q m1 hq => ?_)
  obtain ⟨hq, hm1⟩ := hq
  refine z_widen (k := cells + 3) (n := slots + 18) (Nat.le_refl _) (Nat.le_refl _) ?_
  refine z_icmp_eq C 1077 dL_law_578 (by decide) (fun _ => ?_) (fun hn => absurd (hr.trans hq.symm) hn)
  exact z_swap (wa := zWO a g o (x1, f)) (wb := WM bm g m1) (K _ _ x1 m1 f hx hm1)
set_option maxHeartbeats 4000000 in
set_option maxRecDepth 100000 in
theorem law_c7 (hst : l.stackTraces = false) (C : zC X D 8 code RL wsL_law (zT g)) (hR : zR X room_1) (hL : zL X l) (CL : zCL X ea) (SC : zSc X b L xs) {A : zNt} {P : zPa} {x m : zS} {f : Nat → Int64} (hx : ST A P x) (hm : SM A P m) {i : Int32} (hin : ∀ v : Int32, 0 ≤ v.toInt → v.toInt ≤ 4 → vp_in (i + v) L) (hc : cells + 3 ≤ 658665) (hs : slots + 18 ≤ 7120110)
    (K : ∀ (A' : zNt) (P' : zPa) (x' m' : zS) (f' : Nat → Int64), ST A' P' x' → SM A' P' m' → zV X D 8 (cells + 3) (slots + 18) (zLW a bm g o (x', m', f')) 1077 (lvH b a bm o i) []) : zV X D 8 cells slots (zLW a bm g o (x, m, f)) 583 (lvH b a bm o i) [] := by
  refine z_aload_n C 1 dL_law_583 rfl ?_
  refine z_asl (wa := WM bm g m) (wb := [(o, .inl (g 2, 1, .inr (.inl f)))]) (wc := WX a g x) ?_
  refine z_fi C hR hL (wr := WM bm g m ++ [(o, .inl (g 2, 1, .inr (.inl f)))]) (wf := WX a g) (u0 := x) (st := []) (As := []) (c_X4_sum l D a g x _ (X_sum hx)) gL_law_X4_sum rfl ⟨by decide +kernel, by decide +kernel, (show (parseMethodDescriptor yX4_sum.desc).map (fun d => d.parameters.length) = some 0 from by decide +kernel)⟩ ⟨Nat.le_of_ble_eq_true rfl, Nat.le_of_ble_eq_true rfl⟩ ⟨Nat.le_trans (Nat.le_add_right _ 3) hc, Nat.le_trans (Nat.le_add_right _ 18) hs⟩ 0 4 rfl rfl rfl rfl (Nat.le_of_ble_eq_true rfl) dL_law_584 (fun r x1 hr => ?_)
  obtain ⟨rfl, hr⟩ := hr
  refine z_widen (k := cells + 3) (n := slots + 18) (Nat.add_le_add_left (Nat.le_of_ble_eq_true rfl) _) (Nat.add_le_add_left (Nat.le_of_ble_eq_true rfl) _) ?_
  refine z_asr (wa := WM bm g m) (wb := [(o, .inl (g 2, 1, .inr (.inl f)))]) (wc := WX a g x) ?_
  refine z_swap (wa := WM bm g m) (wb := zWO a g o (x, f)) ?_
  refine z_aload_n C 2 dL_law_587 rfl ?_
  refine z_fi C hR hL (wr := zWO a g o (x, f)) (wf := WM bm g) (u0 := m) (As := []) (c_X5_sum l D bm g m _ (M_sum hm)) gL_law_X5_sum rfl ⟨by decide +kernel, by decide +kernel, (show (parseMethodDescriptor yX5_sum.desc).map (fun d => d.parameters.length) = some 0 from by decide +kernel)⟩ ⟨Nat.le_of_ble_eq_true rfl, Nat.le_of_ble_eq_true rfl⟩ ⟨hc, hs⟩ 0 5 rfl rfl rfl rfl (Nat.le_of_ble_eq_true rfl) dL_law_588 (fun q m1 hq => ?_)
  obtain ⟨hq, hm1⟩ := hq
  refine z_widen (k := cells + 3) (n := slots + 18) (Nat.le_refl _) (Nat.le_refl _) ?_
  refine z_icmp_eq C 1077 dL_law_591 (by decide) (fun _ => ?_) (fun hn => absurd (hr.trans hq.symm) hn)
  exact z_swap (wa := zWO a g o (x, f)) (wb := WM bm g m1) (K _ _ x m1 f hx hm1)
set_option maxHeartbeats 4000000 in
set_option maxRecDepth 100000 in
theorem law_c8 (hst : l.stackTraces = false) (C : zC X D 8 code RL wsL_law (zT g)) (hR : zR X room_1) (hL : zL X l) (CL : zCL X ea) (SC : zSc X b L xs) {A : zNt} {P : zPa} {x m : zS} {f : Nat → Int64} (hx : ST A P x) (hm : SM A P m) {i : Int32} (hin : ∀ v : Int32, 0 ≤ v.toInt → v.toInt ≤ 4 → vp_in (i + v) L) (hc : cells + 3 ≤ 658665) (hs : slots + 18 ≤ 7120110)
    (K : ∀ (A' : zNt) (P' : zPa) (x' m' : zS) (f' : Nat → Int64), ST A' P' x' → SM A' P' m' → zV X D 8 (cells + 3) (slots + 18) (zLW a bm g o (x', m', f')) 1077 (lvH b a bm o i) []) : zV X D 8 cells slots (zLW a bm g o (x, m, f)) 596 (lvH b a bm o i) [] := by
  refine z_aload_n C 1 dL_law_596 rfl ?_
  refine z_asl (wa := WM bm g m) (wb := [(o, .inl (g 2, 1, .inr (.inl f)))]) (wc := WX a g x) ?_
  refine z_fi C hR hL (wr := WM bm g m ++ [(o, .inl (g 2, 1, .inr (.inl f)))]) (wf := WX a g) (u0 := x) (st := []) (As := []) (c_X4_isClosed l D a g x _ (X_closed hx)) gL_law_X4_isClosed rfl ⟨by decide +kernel, by decide +kernel, (show (parseMethodDescriptor yX4_isClosed.desc).map (fun d => d.parameters.length) = some 0 from by decide +kernel)⟩ ⟨Nat.le_of_ble_eq_true rfl, Nat.le_of_ble_eq_true rfl⟩ ⟨Nat.le_trans (Nat.le_add_right _ 3) hc, Nat.le_trans (Nat.le_add_right _ 18) hs⟩ 0 4 rfl rfl rfl rfl (Nat.le_of_ble_eq_true rfl) dL_law_597 (fun r x1 hr => ?_)
  obtain ⟨rfl, hr⟩ := hr
  refine z_widen (k := cells + 3) (n := slots + 18) (Nat.add_le_add_left (Nat.le_of_ble_eq_true rfl) _) (Nat.add_le_add_left (Nat.le_of_ble_eq_true rfl) _) ?_
  refine z_asr (wa := WM bm g m) (wb := [(o, .inl (g 2, 1, .inr (.inl f)))]) (wc := WX a g x) ?_
  refine z_swap (wa := WM bm g m) (wb := zWO a g o (x, f)) ?_
  refine z_aload_n C 2 dL_law_600 rfl ?_
  refine z_fi C hR hL (wr := zWO a g o (x, f)) (wf := WM bm g) (u0 := m) (As := []) (c_X5_isClosed l D bm g m _ (M_closed hm)) gL_law_X5_isClosed rfl ⟨by decide +kernel, by decide +kernel, (show (parseMethodDescriptor yX5_isClosed.desc).map (fun d => d.parameters.length) = some 0 from by decide +kernel)⟩ ⟨Nat.le_of_ble_eq_true rfl, Nat.le_of_ble_eq_true rfl⟩ ⟨hc, hs⟩ 0 5 rfl rfl rfl rfl (Nat.le_of_ble_eq_true rfl) dL_law_601 (fun q m1 hq => ?_)
  obtain ⟨hq, hm1⟩ := hq
  refine z_widen (k := cells + 3) (n := slots + 18) (Nat.le_refl _) (Nat.le_refl _) ?_
  refine z_icmp_eq C 1077 dL_law_604 (by decide) (fun _ => ?_) (fun hn => absurd (hr.trans hq.symm) hn)
  exact z_swap (wa := zWO a g o (x, f)) (wb := WM bm g m1) (K _ _ x m1 f hx hm1)
set_option maxHeartbeats 4000000 in
set_option maxRecDepth 100000 in
theorem law_c9 (hst : l.stackTraces = false) (C : zC X D 8 code RL wsL_law (zT g)) (hR : zR X room_1) (hL : zL X l) (CL : zCL X ea) (SC : zSc X b L xs) {A : zNt} {P : zPa} {x m : zS} {f : Nat → Int64} (hx : ST A P x) (hm : SM A P m) {i : Int32} (hin : ∀ v : Int32, 0 ≤ v.toInt → v.toInt ≤ 4 → vp_in (i + v) L) (hc : cells + 3 ≤ 658665) (hs : slots + 18 ≤ 7120110)
    (K : ∀ (A' : zNt) (P' : zPa) (x' m' : zS) (f' : Nat → Int64), ST A' P' x' → SM A' P' m' → zV X D 8 (cells + 3) (slots + 18) (zLW a bm g o (x', m', f')) 1077 (lvH b a bm o i) []) : zV X D 8 cells slots (zLW a bm g o (x, m, f)) 609 (lvH b a bm o i) [] := by
  refine z_aload_n C 1 dL_law_609 rfl ?_
  refine z_arg C SC 0 4 1 rfl rfl (by decide) (hin 1 (by decide) (by decide)) dL_law_610 dL_law_611 dL_law_613 dL_law_614 dL_law_615 ?_
  refine z_aload_n C 3 dL_law_616 rfl ?_
  refine z_fw C hR hL CL (wr := WM bm g m) (wf := zWO a g o) (u0 := (x, f)) (As := [.ref (a 0), .int (xs (i + 1).toNatClampNeg), .ref o]) (c_L_height l hst D a g ea o x f (xs (i + 1).toNatClampNeg) (oSt A P (aHgt A) (xs (i + 1).toNatClampNeg)) (X_height hx (xs (i + 1).toNatClampNeg))) gL_law_L_height rfl ⟨by decide +kernel, by decide +kernel, (show (parseMethodDescriptor yL_height.desc).map (fun d => d.parameters.length) = some 3 from by decide +kernel)⟩ ⟨Nat.le_of_ble_eq_true rfl, Nat.le_of_ble_eq_true rfl⟩ ⟨Nat.le_trans (Nat.add_le_add_left (Nat.le_of_ble_eq_true rfl) _) hc, Nat.le_trans (Nat.add_le_add_left (Nat.le_of_ble_eq_true rfl) _) hs⟩ rfl (Nat.le_of_ble_eq_true rfl) dL_law_617 (fun k u hk => ?_)
  obtain ⟨x1, f1⟩ := u
  obtain ⟨hk1, hk3, hk0, hx1⟩ := hk
  refine z_widen (k := cells + 3) (n := slots + 18) (Nat.add_le_add_left (Nat.le_of_ble_eq_true rfl) _) (Nat.add_le_add_left (Nat.le_of_ble_eq_true rfl) _) ?_
  refine z_istore (lv' := [(5, .int k), (0, .ref b), (1, .ref (a 0)), (2, .ref (bm 0)), (3, .ref o), (4, .int i)]) C dL_law_620 (by decide) rfl ?_
  refine z_swap (wa := WM bm g m) (wb := zWO a g o (x1, f1)) ?_
  refine z_aload_n C 3 dL_law_622 rfl ?_
  refine z_arg C SC 1 5 1 rfl rfl (by decide) (hin 1 (by decide) (by decide)) dL_law_623 dL_law_624 dL_law_626 dL_law_627 dL_law_628 ?_
  refine z_fl C hR hL (wr := zWO a g o (x1, f1)) (wf := WM bm g) (u0 := m) (As := [.int (xs (i + 1).toNatClampNeg)]) (c_X5_height l D bm g m (xs (i + 1).toNatClampNeg) _ (M_height hm (xs (i + 1).toNatClampNeg))) gL_law_X5_height rfl ⟨by decide +kernel, by decide +kernel, (show (parseMethodDescriptor yX5_height.desc).map (fun d => d.parameters.length) = some 1 from by decide +kernel)⟩ ⟨Nat.le_of_ble_eq_true rfl, Nat.le_of_ble_eq_true rfl⟩ ⟨hc, hs⟩ 0 5 rfl rfl rfl rfl (Nat.le_of_ble_eq_true rfl) dL_law_629 (fun r m1 hr => ?_)
  obtain ⟨hr5, hr0, hm1⟩ := hr
  refine z_widen (k := cells + 3) (n := slots + 18) (Nat.le_refl _) (Nat.le_refl _) ?_
  refine z_lstore (lv' := [(6, .long r), (5, .int k), (0, .ref b), (1, .ref (a 0)), (2, .ref (bm 0)), (3, .ref o), (4, .int i)]) C dL_law_632 (by decide) rfl ?_
  refine z_aload_n C 4 dL_law_634 rfl ?_
  refine z_fi C hR hL (wr := zWO a g o (x1, f1)) (wf := WM bm g) (u0 := m1) (As := []) (c_X5_thrown l D bm g m1 (fun t => t = gI m1 5) rfl) gL_law_X5_thrown rfl ⟨by decide +kernel, by decide +kernel, (show (parseMethodDescriptor yX5_thrown.desc).map (fun d => d.parameters.length) = some 0 from by decide +kernel)⟩ ⟨Nat.le_of_ble_eq_true rfl, Nat.le_of_ble_eq_true rfl⟩ ⟨hc, hs⟩ 0 5 rfl rfl rfl rfl (Nat.le_of_ble_eq_true rfl) dL_law_635 (fun t m2 ht => ?_)
  obtain ⟨rfl, ht⟩ := ht
  refine z_widen (k := cells + 3) (n := slots + 18) (Nat.le_refl _) (Nat.le_refl _) ?_
  refine z_iload C 1 dL_law_638 rfl ?_
  refine z_icmp_eq C 645 dL_law_640 (by decide) (fun _ => ?_) (fun hn => absurd (ht.trans (hr5.trans hk1.symm)) hn)
  have hE : zV X D 8 (cells + 3) (slots + 18) (zWO a g o (x1, f1) ++ WM bm g m1) 661 [(6, .long r), (5, .int k), (0, .ref b), (1, .ref (a 0)), (2, .ref (bm 0)), (3, .ref o), (4, .int i)] [] := by
    refine z_goto C 1077 dL_law_661 (by decide) ?_
    refine z_sub (lv' := lvH b a bm o i) [2, 3, 4, 5, 6] rfl ?_
    exact z_swap (wa := zWO a g o (x1, f1)) (wb := WM bm g m1) (K _ _ x1 m1 f1 hx1 hm1)
  refine z_iload C 1 dL_law_645 rfl ?_
  refine z_if_ne C 661 dL_law_647 (by decide) (fun _ => hE) (fun hz => ?_)
  have ho := wp_zero hk1 hk3 hz
  refine z_aload_n C 5 dL_law_650 rfl ?_
  refine z_iconst C 0 dL_law_651 (by decide) ?_
  refine z_lald C 0 2 rfl rfl (show ¬ (_ ∨ _) from by decide) dL_law_652 ?_
  refine z_lload C 0 dL_law_653 rfl ?_
  exact z_lcmp_eq C 661 dL_law_655 dL_law_656 (by decide) (fun _ => hE) (fun hn => absurd ((hk0 ho).trans (hr0 ho).symm) hn)
set_option maxHeartbeats 4000000 in
set_option maxRecDepth 100000 in
theorem law_c10 (hst : l.stackTraces = false) (C : zC X D 8 code RL wsL_law (zT g)) (hR : zR X room_1) (hL : zL X l) (CL : zCL X ea) (SC : zSc X b L xs) {A : zNt} {P : zPa} {x m : zS} {f : Nat → Int64} (hx : ST A P x) (hm : SM A P m) {i : Int32} (hin : ∀ v : Int32, 0 ≤ v.toInt → v.toInt ≤ 4 → vp_in (i + v) L) (hc : cells + 3 ≤ 658665) (hs : slots + 18 ≤ 7120110)
    (K : ∀ (A' : zNt) (P' : zPa) (x' m' : zS) (f' : Nat → Int64), ST A' P' x' → SM A' P' m' → zV X D 8 (cells + 3) (slots + 18) (zLW a bm g o (x', m', f')) 1077 (lvH b a bm o i) []) : zV X D 8 cells slots (zLW a bm g o (x, m, f)) 664 (lvH b a bm o i) [] := by
  refine z_aload_n C 1 dL_law_664 rfl ?_
  refine z_arg C SC 0 4 1 rfl rfl (by decide) (hin 1 (by decide) (by decide)) dL_law_665 dL_law_666 dL_law_668 dL_law_669 dL_law_670 ?_
  refine z_aload_n C 3 dL_law_671 rfl ?_
  refine z_fw C hR hL CL (wr := WM bm g m) (wf := zWO a g o) (u0 := (x, f)) (As := [.ref (a 0), .int (xs (i + 1).toNatClampNeg), .ref o]) (c_L_heightAnew l hst D a g ea o x f (xs (i + 1).toNatClampNeg) (oSt A P (aHgt A) (xs (i + 1).toNatClampNeg)) (X_heightAnew hx (xs (i + 1).toNatClampNeg))) gL_law_L_heightAnew rfl ⟨by decide +kernel, by decide +kernel, (show (parseMethodDescriptor yL_heightAnew.desc).map (fun d => d.parameters.length) = some 3 from by decide +kernel)⟩ ⟨Nat.le_of_ble_eq_true rfl, Nat.le_of_ble_eq_true rfl⟩ ⟨Nat.le_trans (Nat.add_le_add_left (Nat.le_of_ble_eq_true rfl) _) hc, Nat.le_trans (Nat.add_le_add_left (Nat.le_of_ble_eq_true rfl) _) hs⟩ rfl (Nat.le_of_ble_eq_true rfl) dL_law_672 (fun k u hk => ?_)
  obtain ⟨x1, f1⟩ := u
  obtain ⟨hk1, hk3, hk0, hx1⟩ := hk
  refine z_widen (k := cells + 3) (n := slots + 18) (Nat.add_le_add_left (Nat.le_of_ble_eq_true rfl) _) (Nat.add_le_add_left (Nat.le_of_ble_eq_true rfl) _) ?_
  refine z_istore (lv' := [(5, .int k), (0, .ref b), (1, .ref (a 0)), (2, .ref (bm 0)), (3, .ref o), (4, .int i)]) C dL_law_675 (by decide) rfl ?_
  refine z_swap (wa := WM bm g m) (wb := zWO a g o (x1, f1)) ?_
  refine z_aload_n C 3 dL_law_677 rfl ?_
  refine z_arg C SC 1 5 1 rfl rfl (by decide) (hin 1 (by decide) (by decide)) dL_law_678 dL_law_679 dL_law_681 dL_law_682 dL_law_683 ?_
  refine z_fl C hR hL (wr := zWO a g o (x1, f1)) (wf := WM bm g) (u0 := m) (As := [.int (xs (i + 1).toNatClampNeg)]) (c_X5_heightAnew l D bm g m (xs (i + 1).toNatClampNeg) _ (M_heightAnew hm (xs (i + 1).toNatClampNeg))) gL_law_X5_heightAnew rfl ⟨by decide +kernel, by decide +kernel, (show (parseMethodDescriptor yX5_heightAnew.desc).map (fun d => d.parameters.length) = some 1 from by decide +kernel)⟩ ⟨Nat.le_of_ble_eq_true rfl, Nat.le_of_ble_eq_true rfl⟩ ⟨hc, hs⟩ 0 5 rfl rfl rfl rfl (Nat.le_of_ble_eq_true rfl) dL_law_684 (fun r m1 hr => ?_)
  obtain ⟨hr5, hr0, hm1⟩ := hr
  refine z_widen (k := cells + 3) (n := slots + 18) (Nat.le_refl _) (Nat.le_refl _) ?_
  refine z_lstore (lv' := [(6, .long r), (5, .int k), (0, .ref b), (1, .ref (a 0)), (2, .ref (bm 0)), (3, .ref o), (4, .int i)]) C dL_law_687 (by decide) rfl ?_
  refine z_aload_n C 4 dL_law_689 rfl ?_
  refine z_fi C hR hL (wr := zWO a g o (x1, f1)) (wf := WM bm g) (u0 := m1) (As := []) (c_X5_thrown l D bm g m1 (fun t => t = gI m1 5) rfl) gL_law_X5_thrown rfl ⟨by decide +kernel, by decide +kernel, (show (parseMethodDescriptor yX5_thrown.desc).map (fun d => d.parameters.length) = some 0 from by decide +kernel)⟩ ⟨Nat.le_of_ble_eq_true rfl, Nat.le_of_ble_eq_true rfl⟩ ⟨hc, hs⟩ 0 5 rfl rfl rfl rfl (Nat.le_of_ble_eq_true rfl) dL_law_690 (fun t m2 ht => ?_)
  obtain ⟨rfl, ht⟩ := ht
  refine z_widen (k := cells + 3) (n := slots + 18) (Nat.le_refl _) (Nat.le_refl _) ?_
  refine z_iload C 1 dL_law_693 rfl ?_
  refine z_icmp_eq C 700 dL_law_695 (by decide) (fun _ => ?_) (fun hn => absurd (ht.trans (hr5.trans hk1.symm)) hn)
  have hE : zV X D 8 (cells + 3) (slots + 18) (zWO a g o (x1, f1) ++ WM bm g m1) 716 [(6, .long r), (5, .int k), (0, .ref b), (1, .ref (a 0)), (2, .ref (bm 0)), (3, .ref o), (4, .int i)] [] := by
    refine z_goto C 1077 dL_law_716 (by decide) ?_
    refine z_sub (lv' := lvH b a bm o i) [2, 3, 4, 5, 6] rfl ?_
    exact z_swap (wa := zWO a g o (x1, f1)) (wb := WM bm g m1) (K _ _ x1 m1 f1 hx1 hm1)
  refine z_iload C 1 dL_law_700 rfl ?_
  refine z_if_ne C 716 dL_law_702 (by decide) (fun _ => hE) (fun hz => ?_)
  have ho := wp_zero hk1 hk3 hz
  refine z_aload_n C 5 dL_law_705 rfl ?_
  refine z_iconst C 0 dL_law_706 (by decide) ?_
  refine z_lald C 0 2 rfl rfl (show ¬ (_ ∨ _) from by decide) dL_law_707 ?_
  refine z_lload C 0 dL_law_708 rfl ?_
  exact z_lcmp_eq C 716 dL_law_710 dL_law_711 (by decide) (fun _ => hE) (fun hn => absurd ((hk0 ho).trans (hr0 ho).symm) hn)
set_option maxHeartbeats 4000000 in
set_option maxRecDepth 100000 in
theorem law_c11 (hst : l.stackTraces = false) (C : zC X D 8 code RL wsL_law (zT g)) (hR : zR X room_1) (hL : zL X l) (CL : zCL X ea) (SC : zSc X b L xs) {A : zNt} {P : zPa} {x m : zS} {f : Nat → Int64} (hx : ST A P x) (hm : SM A P m) {i : Int32} (hin : ∀ v : Int32, 0 ≤ v.toInt → v.toInt ≤ 4 → vp_in (i + v) L) (hc : cells + 3 ≤ 658665) (hs : slots + 18 ≤ 7120110)
    (K : ∀ (A' : zNt) (P' : zPa) (x' m' : zS) (f' : Nat → Int64), ST A' P' x' → SM A' P' m' → zV X D 8 (cells + 3) (slots + 18) (zLW a bm g o (x', m', f')) 1077 (lvH b a bm o i) []) : zV X D 8 cells slots (zLW a bm g o (x, m, f)) 719 (lvH b a bm o i) [] := by
  refine z_aload_n C 1 dL_law_719 rfl ?_
  refine z_arg C SC 0 4 1 rfl rfl (by decide) (hin 1 (by decide) (by decide)) dL_law_720 dL_law_721 dL_law_723 dL_law_724 dL_law_725 ?_
  refine z_aload_n C 3 dL_law_726 rfl ?_
  refine z_fw C hR hL CL (wr := WM bm g m) (wf := zWO a g o) (u0 := (x, f)) (As := [.ref (a 0), .int (xs (i + 1).toNatClampNeg), .ref o]) (c_L_free l hst D a g ea o x f (xs (i + 1).toNatClampNeg) (oSt A P (aFre A) (xs (i + 1).toNatClampNeg)) (X_free hx (xs (i + 1).toNatClampNeg))) gL_law_L_free rfl ⟨by decide +kernel, by decide +kernel, (show (parseMethodDescriptor yL_free.desc).map (fun d => d.parameters.length) = some 3 from by decide +kernel)⟩ ⟨Nat.le_of_ble_eq_true rfl, Nat.le_of_ble_eq_true rfl⟩ ⟨Nat.le_trans (Nat.add_le_add_left (Nat.le_of_ble_eq_true rfl) _) hc, Nat.le_trans (Nat.add_le_add_left (Nat.le_of_ble_eq_true rfl) _) hs⟩ rfl (Nat.le_of_ble_eq_true rfl) dL_law_727 (fun k u hk => ?_)
  obtain ⟨x1, f1⟩ := u
  obtain ⟨hk1, hk3, hk0, hx1⟩ := hk
  refine z_widen (k := cells + 3) (n := slots + 18) (Nat.add_le_add_left (Nat.le_of_ble_eq_true rfl) _) (Nat.add_le_add_left (Nat.le_of_ble_eq_true rfl) _) ?_
  refine z_istore (lv' := [(5, .int k), (0, .ref b), (1, .ref (a 0)), (2, .ref (bm 0)), (3, .ref o), (4, .int i)]) C dL_law_730 (by decide) rfl ?_
  refine z_swap (wa := WM bm g m) (wb := zWO a g o (x1, f1)) ?_
  refine z_aload_n C 3 dL_law_732 rfl ?_
  refine z_arg C SC 1 5 1 rfl rfl (by decide) (hin 1 (by decide) (by decide)) dL_law_733 dL_law_734 dL_law_736 dL_law_737 dL_law_738 ?_
  refine z_fl C hR hL (wr := zWO a g o (x1, f1)) (wf := WM bm g) (u0 := m) (As := [.int (xs (i + 1).toNatClampNeg)]) (c_X5_free l D bm g m (xs (i + 1).toNatClampNeg) _ (M_free hm (xs (i + 1).toNatClampNeg))) gL_law_X5_free rfl ⟨by decide +kernel, by decide +kernel, (show (parseMethodDescriptor yX5_free.desc).map (fun d => d.parameters.length) = some 1 from by decide +kernel)⟩ ⟨Nat.le_of_ble_eq_true rfl, Nat.le_of_ble_eq_true rfl⟩ ⟨hc, hs⟩ 0 5 rfl rfl rfl rfl (Nat.le_of_ble_eq_true rfl) dL_law_739 (fun r m1 hr => ?_)
  obtain ⟨hr5, hr0, hm1⟩ := hr
  refine z_widen (k := cells + 3) (n := slots + 18) (Nat.le_refl _) (Nat.le_refl _) ?_
  refine z_lstore (lv' := [(6, .long r), (5, .int k), (0, .ref b), (1, .ref (a 0)), (2, .ref (bm 0)), (3, .ref o), (4, .int i)]) C dL_law_742 (by decide) rfl ?_
  refine z_aload_n C 4 dL_law_744 rfl ?_
  refine z_fi C hR hL (wr := zWO a g o (x1, f1)) (wf := WM bm g) (u0 := m1) (As := []) (c_X5_thrown l D bm g m1 (fun t => t = gI m1 5) rfl) gL_law_X5_thrown rfl ⟨by decide +kernel, by decide +kernel, (show (parseMethodDescriptor yX5_thrown.desc).map (fun d => d.parameters.length) = some 0 from by decide +kernel)⟩ ⟨Nat.le_of_ble_eq_true rfl, Nat.le_of_ble_eq_true rfl⟩ ⟨hc, hs⟩ 0 5 rfl rfl rfl rfl (Nat.le_of_ble_eq_true rfl) dL_law_745 (fun t m2 ht => ?_)
  obtain ⟨rfl, ht⟩ := ht
  refine z_widen (k := cells + 3) (n := slots + 18) (Nat.le_refl _) (Nat.le_refl _) ?_
  refine z_iload C 1 dL_law_748 rfl ?_
  refine z_icmp_eq C 755 dL_law_750 (by decide) (fun _ => ?_) (fun hn => absurd (ht.trans (hr5.trans hk1.symm)) hn)
  have hE : zV X D 8 (cells + 3) (slots + 18) (zWO a g o (x1, f1) ++ WM bm g m1) 771 [(6, .long r), (5, .int k), (0, .ref b), (1, .ref (a 0)), (2, .ref (bm 0)), (3, .ref o), (4, .int i)] [] := by
    refine z_goto C 1077 dL_law_771 (by decide) ?_
    refine z_sub (lv' := lvH b a bm o i) [2, 3, 4, 5, 6] rfl ?_
    exact z_swap (wa := zWO a g o (x1, f1)) (wb := WM bm g m1) (K _ _ x1 m1 f1 hx1 hm1)
  refine z_iload C 1 dL_law_755 rfl ?_
  refine z_if_ne C 771 dL_law_757 (by decide) (fun _ => hE) (fun hz => ?_)
  have ho := wp_zero hk1 hk3 hz
  refine z_aload_n C 5 dL_law_760 rfl ?_
  refine z_iconst C 0 dL_law_761 (by decide) ?_
  refine z_lald C 0 2 rfl rfl (show ¬ (_ ∨ _) from by decide) dL_law_762 ?_
  refine z_lload C 0 dL_law_763 rfl ?_
  exact z_lcmp_eq C 771 dL_law_765 dL_law_766 (by decide) (fun _ => hE) (fun hn => absurd ((hk0 ho).trans (hr0 ho).symm) hn)
set_option maxHeartbeats 4000000 in
set_option maxRecDepth 100000 in
theorem law_c12 (hst : l.stackTraces = false) (C : zC X D 8 code RL wsL_law (zT g)) (hR : zR X room_1) (hL : zL X l) (CL : zCL X ea) (SC : zSc X b L xs) {A : zNt} {P : zPa} {x m : zS} {f : Nat → Int64} (hx : ST A P x) (hm : SM A P m) {i : Int32} (hin : ∀ v : Int32, 0 ≤ v.toInt → v.toInt ≤ 4 → vp_in (i + v) L) (hc : cells + 3 ≤ 658665) (hs : slots + 18 ≤ 7120110)
    (K : ∀ (A' : zNt) (P' : zPa) (x' m' : zS) (f' : Nat → Int64), ST A' P' x' → SM A' P' m' → zV X D 8 (cells + 3) (slots + 18) (zLW a bm g o (x', m', f')) 1077 (lvH b a bm o i) []) : zV X D 8 cells slots (zLW a bm g o (x, m, f)) 774 (lvH b a bm o i) [] := by
  refine z_aload_n C 1 dL_law_774 rfl ?_
  refine z_arg C SC 0 4 1 rfl rfl (by decide) (hin 1 (by decide) (by decide)) dL_law_775 dL_law_776 dL_law_778 dL_law_779 dL_law_780 ?_
  refine z_aload_n C 3 dL_law_781 rfl ?_
  refine z_fw C hR hL CL (wr := WM bm g m) (wf := zWO a g o) (u0 := (x, f)) (As := [.ref (a 0), .int (xs (i + 1).toNatClampNeg), .ref o]) (c_L_residual l hst D a g ea o x f (xs (i + 1).toNatClampNeg) (oOb A P (aRes A) (xs (i + 1).toNatClampNeg)) (X_residual hx (xs (i + 1).toNatClampNeg))) gL_law_L_residual rfl ⟨by decide +kernel, by decide +kernel, (show (parseMethodDescriptor yL_residual.desc).map (fun d => d.parameters.length) = some 3 from by decide +kernel)⟩ ⟨Nat.le_of_ble_eq_true rfl, Nat.le_of_ble_eq_true rfl⟩ ⟨Nat.le_trans (Nat.add_le_add_left (Nat.le_of_ble_eq_true rfl) _) hc, Nat.le_trans (Nat.add_le_add_left (Nat.le_of_ble_eq_true rfl) _) hs⟩ rfl (Nat.le_of_ble_eq_true rfl) dL_law_782 (fun k u hk => ?_)
  obtain ⟨x1, f1⟩ := u
  obtain ⟨hk1, hk3, hk0, hx1⟩ := hk
  refine z_widen (k := cells + 3) (n := slots + 18) (Nat.add_le_add_left (Nat.le_of_ble_eq_true rfl) _) (Nat.add_le_add_left (Nat.le_of_ble_eq_true rfl) _) ?_
  refine z_istore (lv' := [(5, .int k), (0, .ref b), (1, .ref (a 0)), (2, .ref (bm 0)), (3, .ref o), (4, .int i)]) C dL_law_785 (by decide) rfl ?_
  refine z_swap (wa := WM bm g m) (wb := zWO a g o (x1, f1)) ?_
  refine z_aload_n C 3 dL_law_787 rfl ?_
  refine z_arg C SC 1 5 1 rfl rfl (by decide) (hin 1 (by decide) (by decide)) dL_law_788 dL_law_789 dL_law_791 dL_law_792 dL_law_793 ?_
  refine z_fl C hR hL (wr := zWO a g o (x1, f1)) (wf := WM bm g) (u0 := m) (As := [.int (xs (i + 1).toNatClampNeg)]) (c_X5_residual l D bm g m (xs (i + 1).toNatClampNeg) _ (M_residual hm (xs (i + 1).toNatClampNeg))) gL_law_X5_residual rfl ⟨by decide +kernel, by decide +kernel, (show (parseMethodDescriptor yX5_residual.desc).map (fun d => d.parameters.length) = some 1 from by decide +kernel)⟩ ⟨Nat.le_of_ble_eq_true rfl, Nat.le_of_ble_eq_true rfl⟩ ⟨hc, hs⟩ 0 5 rfl rfl rfl rfl (Nat.le_of_ble_eq_true rfl) dL_law_794 (fun r m1 hr => ?_)
  obtain ⟨hr5, hr0, hm1⟩ := hr
  refine z_widen (k := cells + 3) (n := slots + 18) (Nat.le_refl _) (Nat.le_refl _) ?_
  refine z_lstore (lv' := [(6, .long r), (5, .int k), (0, .ref b), (1, .ref (a 0)), (2, .ref (bm 0)), (3, .ref o), (4, .int i)]) C dL_law_797 (by decide) rfl ?_
  refine z_aload_n C 4 dL_law_799 rfl ?_
  refine z_fi C hR hL (wr := zWO a g o (x1, f1)) (wf := WM bm g) (u0 := m1) (As := []) (c_X5_thrown l D bm g m1 (fun t => t = gI m1 5) rfl) gL_law_X5_thrown rfl ⟨by decide +kernel, by decide +kernel, (show (parseMethodDescriptor yX5_thrown.desc).map (fun d => d.parameters.length) = some 0 from by decide +kernel)⟩ ⟨Nat.le_of_ble_eq_true rfl, Nat.le_of_ble_eq_true rfl⟩ ⟨hc, hs⟩ 0 5 rfl rfl rfl rfl (Nat.le_of_ble_eq_true rfl) dL_law_800 (fun t m2 ht => ?_)
  obtain ⟨rfl, ht⟩ := ht
  refine z_widen (k := cells + 3) (n := slots + 18) (Nat.le_refl _) (Nat.le_refl _) ?_
  refine z_iload C 1 dL_law_803 rfl ?_
  refine z_icmp_eq C 810 dL_law_805 (by decide) (fun _ => ?_) (fun hn => absurd (ht.trans (hr5.trans hk1.symm)) hn)
  have hE : zV X D 8 (cells + 3) (slots + 18) (zWO a g o (x1, f1) ++ WM bm g m1) 826 [(6, .long r), (5, .int k), (0, .ref b), (1, .ref (a 0)), (2, .ref (bm 0)), (3, .ref o), (4, .int i)] [] := by
    refine z_goto C 1077 dL_law_826 (by decide) ?_
    refine z_sub (lv' := lvH b a bm o i) [2, 3, 4, 5, 6] rfl ?_
    exact z_swap (wa := zWO a g o (x1, f1)) (wb := WM bm g m1) (K _ _ x1 m1 f1 hx1 hm1)
  refine z_iload C 1 dL_law_810 rfl ?_
  refine z_if_ne C 826 dL_law_812 (by decide) (fun _ => hE) (fun hz => ?_)
  have ho := wp_zero hk1 hk3 hz
  refine z_aload_n C 5 dL_law_815 rfl ?_
  refine z_iconst C 0 dL_law_816 (by decide) ?_
  refine z_lald C 0 2 rfl rfl (show ¬ (_ ∨ _) from by decide) dL_law_817 ?_
  refine z_lload C 0 dL_law_818 rfl ?_
  exact z_lcmp_eq C 826 dL_law_820 dL_law_821 (by decide) (fun _ => hE) (fun hn => absurd ((hk0 ho).trans (hr0 ho).symm) hn)
set_option maxHeartbeats 4000000 in
set_option maxRecDepth 100000 in
theorem law_c13 (hst : l.stackTraces = false) (C : zC X D 8 code RL wsL_law (zT g)) (hR : zR X room_1) (hL : zL X l) (CL : zCL X ea) (SC : zSc X b L xs) {A : zNt} {P : zPa} {x m : zS} {f : Nat → Int64} (hx : ST A P x) (hm : SM A P m) {i : Int32} (hin : ∀ v : Int32, 0 ≤ v.toInt → v.toInt ≤ 4 → vp_in (i + v) L) (hc : cells + 3 ≤ 658665) (hs : slots + 18 ≤ 7120110)
    (K : ∀ (A' : zNt) (P' : zPa) (x' m' : zS) (f' : Nat → Int64), ST A' P' x' → SM A' P' m' → zV X D 8 (cells + 3) (slots + 18) (zLW a bm g o (x', m', f')) 1077 (lvH b a bm o i) []) : zV X D 8 cells slots (zLW a bm g o (x, m, f)) 829 (lvH b a bm o i) [] := by
  refine z_aload_n C 1 dL_law_829 rfl ?_
  refine z_arg C SC 0 4 1 rfl rfl (by decide) (hin 1 (by decide) (by decide)) dL_law_830 dL_law_831 dL_law_833 dL_law_834 dL_law_835 ?_
  refine z_aload_n C 3 dL_law_836 rfl ?_
  refine z_fw C hR hL CL (wr := WM bm g m) (wf := zWO a g o) (u0 := (x, f)) (As := [.ref (a 0), .int (xs (i + 1).toNatClampNeg), .ref o]) (c_L_check l hst D a g ea o x f (xs (i + 1).toNatClampNeg) (oOb A P (aChk A) (xs (i + 1).toNatClampNeg)) (X_check hx (xs (i + 1).toNatClampNeg))) gL_law_L_check rfl ⟨by decide +kernel, by decide +kernel, (show (parseMethodDescriptor yL_check.desc).map (fun d => d.parameters.length) = some 3 from by decide +kernel)⟩ ⟨Nat.le_of_ble_eq_true rfl, Nat.le_of_ble_eq_true rfl⟩ ⟨Nat.le_trans (Nat.add_le_add_left (Nat.le_of_ble_eq_true rfl) _) hc, Nat.le_trans (Nat.add_le_add_left (Nat.le_of_ble_eq_true rfl) _) hs⟩ rfl (Nat.le_of_ble_eq_true rfl) dL_law_837 (fun k u hk => ?_)
  obtain ⟨x1, f1⟩ := u
  obtain ⟨hk1, hk3, hk0, hx1⟩ := hk
  refine z_widen (k := cells + 3) (n := slots + 18) (Nat.add_le_add_left (Nat.le_of_ble_eq_true rfl) _) (Nat.add_le_add_left (Nat.le_of_ble_eq_true rfl) _) ?_
  refine z_istore (lv' := [(5, .int k), (0, .ref b), (1, .ref (a 0)), (2, .ref (bm 0)), (3, .ref o), (4, .int i)]) C dL_law_840 (by decide) rfl ?_
  refine z_swap (wa := WM bm g m) (wb := zWO a g o (x1, f1)) ?_
  refine z_aload_n C 3 dL_law_842 rfl ?_
  refine z_arg C SC 1 5 1 rfl rfl (by decide) (hin 1 (by decide) (by decide)) dL_law_843 dL_law_844 dL_law_846 dL_law_847 dL_law_848 ?_
  refine z_fi C hR hL (wr := zWO a g o (x1, f1)) (wf := WM bm g) (u0 := m) (As := [.int (xs (i + 1).toNatClampNeg)]) (c_X5_check l D bm g m (xs (i + 1).toNatClampNeg) _ (M_check hm (xs (i + 1).toNatClampNeg))) gL_law_X5_check rfl ⟨by decide +kernel, by decide +kernel, (show (parseMethodDescriptor yX5_check.desc).map (fun d => d.parameters.length) = some 1 from by decide +kernel)⟩ ⟨Nat.le_of_ble_eq_true rfl, Nat.le_of_ble_eq_true rfl⟩ ⟨hc, hs⟩ 0 5 rfl rfl rfl rfl (Nat.le_of_ble_eq_true rfl) dL_law_849 (fun r m1 hr => ?_)
  obtain ⟨hr5, hr0, hm1⟩ := hr
  refine z_widen (k := cells + 3) (n := slots + 18) (Nat.le_refl _) (Nat.le_refl _) ?_
  refine z_istore (lv' := [(6, .int r), (5, .int k), (0, .ref b), (1, .ref (a 0)), (2, .ref (bm 0)), (3, .ref o), (4, .int i)]) C dL_law_852 (by decide) rfl ?_
  refine z_aload_n C 4 dL_law_854 rfl ?_
  refine z_fi C hR hL (wr := zWO a g o (x1, f1)) (wf := WM bm g) (u0 := m1) (As := []) (c_X5_thrown l D bm g m1 (fun t => t = gI m1 5) rfl) gL_law_X5_thrown rfl ⟨by decide +kernel, by decide +kernel, (show (parseMethodDescriptor yX5_thrown.desc).map (fun d => d.parameters.length) = some 0 from by decide +kernel)⟩ ⟨Nat.le_of_ble_eq_true rfl, Nat.le_of_ble_eq_true rfl⟩ ⟨hc, hs⟩ 0 5 rfl rfl rfl rfl (Nat.le_of_ble_eq_true rfl) dL_law_855 (fun t m2 ht => ?_)
  obtain ⟨rfl, ht⟩ := ht
  refine z_widen (k := cells + 3) (n := slots + 18) (Nat.le_refl _) (Nat.le_refl _) ?_
  refine z_iload C 1 dL_law_858 rfl ?_
  refine z_icmp_eq C 865 dL_law_860 (by decide) (fun _ => ?_) (fun hn => absurd (ht.trans (hr5.trans hk1.symm)) hn)
  have hE : zV X D 8 (cells + 3) (slots + 18) (zWO a g o (x1, f1) ++ WM bm g m1) 882 [(6, .int r), (5, .int k), (0, .ref b), (1, .ref (a 0)), (2, .ref (bm 0)), (3, .ref o), (4, .int i)] [] := by
    refine z_goto C 1077 dL_law_882 (by decide) ?_
    refine z_sub (lv' := lvH b a bm o i) [2, 3, 4, 5, 6] rfl ?_
    exact z_swap (wa := zWO a g o (x1, f1)) (wb := WM bm g m1) (K _ _ x1 m1 f1 hx1 hm1)
  refine z_iload C 1 dL_law_865 rfl ?_
  refine z_if_ne C 882 dL_law_867 (by decide) (fun _ => hE) (fun hz => ?_)
  have ho := wp_zero hk1 hk3 hz
  refine z_aload_n C 5 dL_law_870 rfl ?_
  refine z_iconst C 0 dL_law_871 (by decide) ?_
  refine z_lald C 0 2 rfl rfl (show ¬ (_ ∨ _) from by decide) dL_law_872 ?_
  refine z_iload C 0 dL_law_873 rfl ?_
  refine z_i2l C dL_law_875 ?_
  exact z_lcmp_eq C 882 dL_law_876 dL_law_877 (by decide) (fun _ => hE) (fun hn => absurd ((hk0 ho).trans (hr0 ho).symm) hn)
set_option maxHeartbeats 4000000 in
set_option maxRecDepth 100000 in
theorem law_c14 (hst : l.stackTraces = false) (C : zC X D 8 code RL wsL_law (zT g)) (hR : zR X room_1) (hL : zL X l) (CL : zCL X ea) (SC : zSc X b L xs) {A : zNt} {P : zPa} {x m : zS} {f : Nat → Int64} (hx : ST A P x) (hm : SM A P m) {i : Int32} (hin : ∀ v : Int32, 0 ≤ v.toInt → v.toInt ≤ 4 → vp_in (i + v) L) (hc : cells + 3 ≤ 658665) (hs : slots + 18 ≤ 7120110)
    (K : ∀ (A' : zNt) (P' : zPa) (x' m' : zS) (f' : Nat → Int64), ST A' P' x' → SM A' P' m' → zV X D 8 (cells + 3) (slots + 18) (zLW a bm g o (x', m', f')) 1077 (lvH b a bm o i) []) : zV X D 8 cells slots (zLW a bm g o (x, m, f)) 885 (lvH b a bm o i) [] := by
  refine z_aload_n C 1 dL_law_885 rfl ?_
  refine z_arg C SC 0 4 1 rfl rfl (by decide) (hin 1 (by decide) (by decide)) dL_law_886 dL_law_887 dL_law_889 dL_law_890 dL_law_891 ?_
  refine z_aload_n C 3 dL_law_892 rfl ?_
  refine z_fw C hR hL CL (wr := WM bm g m) (wf := zWO a g o) (u0 := (x, f)) (As := [.ref (a 0), .int (xs (i + 1).toNatClampNeg), .ref o]) (c_L_checkAnew l hst D a g ea o x f (xs (i + 1).toNatClampNeg) (oOb A P (aChk A) (xs (i + 1).toNatClampNeg)) (X_checkAnew hx (xs (i + 1).toNatClampNeg))) gL_law_L_checkAnew rfl ⟨by decide +kernel, by decide +kernel, (show (parseMethodDescriptor yL_checkAnew.desc).map (fun d => d.parameters.length) = some 3 from by decide +kernel)⟩ ⟨Nat.le_of_ble_eq_true rfl, Nat.le_of_ble_eq_true rfl⟩ ⟨Nat.le_trans (Nat.add_le_add_left (Nat.le_of_ble_eq_true rfl) _) hc, Nat.le_trans (Nat.add_le_add_left (Nat.le_of_ble_eq_true rfl) _) hs⟩ rfl (Nat.le_of_ble_eq_true rfl) dL_law_893 (fun k u hk => ?_)
  obtain ⟨x1, f1⟩ := u
  obtain ⟨hk1, hk3, hk0, hx1⟩ := hk
  refine z_widen (k := cells + 3) (n := slots + 18) (Nat.add_le_add_left (Nat.le_of_ble_eq_true rfl) _) (Nat.add_le_add_left (Nat.le_of_ble_eq_true rfl) _) ?_
  refine z_istore (lv' := [(5, .int k), (0, .ref b), (1, .ref (a 0)), (2, .ref (bm 0)), (3, .ref o), (4, .int i)]) C dL_law_896 (by decide) rfl ?_
  refine z_swap (wa := WM bm g m) (wb := zWO a g o (x1, f1)) ?_
  refine z_aload_n C 3 dL_law_898 rfl ?_
  refine z_arg C SC 1 5 1 rfl rfl (by decide) (hin 1 (by decide) (by decide)) dL_law_899 dL_law_900 dL_law_902 dL_law_903 dL_law_904 ?_
  refine z_fi C hR hL (wr := zWO a g o (x1, f1)) (wf := WM bm g) (u0 := m) (As := [.int (xs (i + 1).toNatClampNeg)]) (c_X5_checkAnew l D bm g m (xs (i + 1).toNatClampNeg) _ (M_checkAnew hm (xs (i + 1).toNatClampNeg))) gL_law_X5_checkAnew rfl ⟨by decide +kernel, by decide +kernel, (show (parseMethodDescriptor yX5_checkAnew.desc).map (fun d => d.parameters.length) = some 1 from by decide +kernel)⟩ ⟨Nat.le_of_ble_eq_true rfl, Nat.le_of_ble_eq_true rfl⟩ ⟨hc, hs⟩ 0 5 rfl rfl rfl rfl (Nat.le_of_ble_eq_true rfl) dL_law_905 (fun r m1 hr => ?_)
  obtain ⟨hr5, hr0, hm1⟩ := hr
  refine z_widen (k := cells + 3) (n := slots + 18) (Nat.le_refl _) (Nat.le_refl _) ?_
  refine z_istore (lv' := [(6, .int r), (5, .int k), (0, .ref b), (1, .ref (a 0)), (2, .ref (bm 0)), (3, .ref o), (4, .int i)]) C dL_law_908 (by decide) rfl ?_
  refine z_aload_n C 4 dL_law_910 rfl ?_
  refine z_fi C hR hL (wr := zWO a g o (x1, f1)) (wf := WM bm g) (u0 := m1) (As := []) (c_X5_thrown l D bm g m1 (fun t => t = gI m1 5) rfl) gL_law_X5_thrown rfl ⟨by decide +kernel, by decide +kernel, (show (parseMethodDescriptor yX5_thrown.desc).map (fun d => d.parameters.length) = some 0 from by decide +kernel)⟩ ⟨Nat.le_of_ble_eq_true rfl, Nat.le_of_ble_eq_true rfl⟩ ⟨hc, hs⟩ 0 5 rfl rfl rfl rfl (Nat.le_of_ble_eq_true rfl) dL_law_911 (fun t m2 ht => ?_)
  obtain ⟨rfl, ht⟩ := ht
  refine z_widen (k := cells + 3) (n := slots + 18) (Nat.le_refl _) (Nat.le_refl _) ?_
  refine z_iload C 1 dL_law_914 rfl ?_
  refine z_icmp_eq C 921 dL_law_916 (by decide) (fun _ => ?_) (fun hn => absurd (ht.trans (hr5.trans hk1.symm)) hn)
  have hE : zV X D 8 (cells + 3) (slots + 18) (zWO a g o (x1, f1) ++ WM bm g m1) 938 [(6, .int r), (5, .int k), (0, .ref b), (1, .ref (a 0)), (2, .ref (bm 0)), (3, .ref o), (4, .int i)] [] := by
    refine z_goto C 1077 dL_law_938 (by decide) ?_
    refine z_sub (lv' := lvH b a bm o i) [2, 3, 4, 5, 6] rfl ?_
    exact z_swap (wa := zWO a g o (x1, f1)) (wb := WM bm g m1) (K _ _ x1 m1 f1 hx1 hm1)
  refine z_iload C 1 dL_law_921 rfl ?_
  refine z_if_ne C 938 dL_law_923 (by decide) (fun _ => hE) (fun hz => ?_)
  have ho := wp_zero hk1 hk3 hz
  refine z_aload_n C 5 dL_law_926 rfl ?_
  refine z_iconst C 0 dL_law_927 (by decide) ?_
  refine z_lald C 0 2 rfl rfl (show ¬ (_ ∨ _) from by decide) dL_law_928 ?_
  refine z_iload C 0 dL_law_929 rfl ?_
  refine z_i2l C dL_law_931 ?_
  exact z_lcmp_eq C 938 dL_law_932 dL_law_933 (by decide) (fun _ => hE) (fun hn => absurd ((hk0 ho).trans (hr0 ho).symm) hn)
set_option maxHeartbeats 4000000 in
set_option maxRecDepth 100000 in
theorem law_c15 (hst : l.stackTraces = false) (C : zC X D 8 code RL wsL_law (zT g)) (hR : zR X room_1) (hL : zL X l) (CL : zCL X ea) (SC : zSc X b L xs) {A : zNt} {P : zPa} {x m : zS} {f : Nat → Int64} (hx : ST A P x) (hm : SM A P m) {i : Int32} (hin : ∀ v : Int32, 0 ≤ v.toInt → v.toInt ≤ 4 → vp_in (i + v) L) (hc : cells + 3 ≤ 658665) (hs : slots + 18 ≤ 7120110)
    (K : ∀ (A' : zNt) (P' : zPa) (x' m' : zS) (f' : Nat → Int64), ST A' P' x' → SM A' P' m' → zV X D 8 (cells + 3) (slots + 18) (zLW a bm g o (x', m', f')) 1077 (lvH b a bm o i) []) : zV X D 8 cells slots (zLW a bm g o (x, m, f)) 941 (lvH b a bm o i) [] := by
  refine z_aload_n C 1 dL_law_941 rfl ?_
  refine z_arg C SC 0 4 1 rfl rfl (by decide) (hin 1 (by decide) (by decide)) dL_law_942 dL_law_943 dL_law_945 dL_law_946 dL_law_947 ?_
  refine z_aload_n C 3 dL_law_948 rfl ?_
  refine z_fw C hR hL CL (wr := WM bm g m) (wf := zWO a g o) (u0 := (x, f)) (As := [.ref (a 0), .int (xs (i + 1).toNatClampNeg), .ref o]) (c_L_score l hst D a g ea o x f (xs (i + 1).toNatClampNeg) (oOb A P (aScr A) (xs (i + 1).toNatClampNeg)) (X_score hx (xs (i + 1).toNatClampNeg))) gL_law_L_score rfl ⟨by decide +kernel, by decide +kernel, (show (parseMethodDescriptor yL_score.desc).map (fun d => d.parameters.length) = some 3 from by decide +kernel)⟩ ⟨Nat.le_of_ble_eq_true rfl, Nat.le_of_ble_eq_true rfl⟩ ⟨Nat.le_trans (Nat.add_le_add_left (Nat.le_of_ble_eq_true rfl) _) hc, Nat.le_trans (Nat.add_le_add_left (Nat.le_of_ble_eq_true rfl) _) hs⟩ rfl (Nat.le_of_ble_eq_true rfl) dL_law_949 (fun k u hk => ?_)
  obtain ⟨x1, f1⟩ := u
  obtain ⟨hk1, hk3, hk0, hx1⟩ := hk
  refine z_widen (k := cells + 3) (n := slots + 18) (Nat.add_le_add_left (Nat.le_of_ble_eq_true rfl) _) (Nat.add_le_add_left (Nat.le_of_ble_eq_true rfl) _) ?_
  refine z_istore (lv' := [(5, .int k), (0, .ref b), (1, .ref (a 0)), (2, .ref (bm 0)), (3, .ref o), (4, .int i)]) C dL_law_952 (by decide) rfl ?_
  refine z_swap (wa := WM bm g m) (wb := zWO a g o (x1, f1)) ?_
  refine z_aload_n C 3 dL_law_954 rfl ?_
  refine z_arg C SC 1 5 1 rfl rfl (by decide) (hin 1 (by decide) (by decide)) dL_law_955 dL_law_956 dL_law_958 dL_law_959 dL_law_960 ?_
  refine z_fl C hR hL (wr := zWO a g o (x1, f1)) (wf := WM bm g) (u0 := m) (As := [.int (xs (i + 1).toNatClampNeg)]) (c_X5_score l D bm g m (xs (i + 1).toNatClampNeg) _ (M_score hm (xs (i + 1).toNatClampNeg))) gL_law_X5_score rfl ⟨by decide +kernel, by decide +kernel, (show (parseMethodDescriptor yX5_score.desc).map (fun d => d.parameters.length) = some 1 from by decide +kernel)⟩ ⟨Nat.le_of_ble_eq_true rfl, Nat.le_of_ble_eq_true rfl⟩ ⟨hc, hs⟩ 0 5 rfl rfl rfl rfl (Nat.le_of_ble_eq_true rfl) dL_law_961 (fun r m1 hr => ?_)
  obtain ⟨hr5, hr0, hm1⟩ := hr
  refine z_widen (k := cells + 3) (n := slots + 18) (Nat.le_refl _) (Nat.le_refl _) ?_
  refine z_lstore (lv' := [(6, .long r), (5, .int k), (0, .ref b), (1, .ref (a 0)), (2, .ref (bm 0)), (3, .ref o), (4, .int i)]) C dL_law_964 (by decide) rfl ?_
  refine z_aload_n C 4 dL_law_966 rfl ?_
  refine z_fi C hR hL (wr := zWO a g o (x1, f1)) (wf := WM bm g) (u0 := m1) (As := []) (c_X5_thrown l D bm g m1 (fun t => t = gI m1 5) rfl) gL_law_X5_thrown rfl ⟨by decide +kernel, by decide +kernel, (show (parseMethodDescriptor yX5_thrown.desc).map (fun d => d.parameters.length) = some 0 from by decide +kernel)⟩ ⟨Nat.le_of_ble_eq_true rfl, Nat.le_of_ble_eq_true rfl⟩ ⟨hc, hs⟩ 0 5 rfl rfl rfl rfl (Nat.le_of_ble_eq_true rfl) dL_law_967 (fun t m2 ht => ?_)
  obtain ⟨rfl, ht⟩ := ht
  refine z_widen (k := cells + 3) (n := slots + 18) (Nat.le_refl _) (Nat.le_refl _) ?_
  refine z_iload C 1 dL_law_970 rfl ?_
  refine z_icmp_eq C 977 dL_law_972 (by decide) (fun _ => ?_) (fun hn => absurd (ht.trans (hr5.trans hk1.symm)) hn)
  have hE : zV X D 8 (cells + 3) (slots + 18) (zWO a g o (x1, f1) ++ WM bm g m1) 993 [(6, .long r), (5, .int k), (0, .ref b), (1, .ref (a 0)), (2, .ref (bm 0)), (3, .ref o), (4, .int i)] [] := by
    refine z_goto C 1077 dL_law_993 (by decide) ?_
    refine z_sub (lv' := lvH b a bm o i) [2, 3, 4, 5, 6] rfl ?_
    exact z_swap (wa := zWO a g o (x1, f1)) (wb := WM bm g m1) (K _ _ x1 m1 f1 hx1 hm1)
  refine z_iload C 1 dL_law_977 rfl ?_
  refine z_if_ne C 993 dL_law_979 (by decide) (fun _ => hE) (fun hz => ?_)
  have ho := wp_zero hk1 hk3 hz
  refine z_aload_n C 5 dL_law_982 rfl ?_
  refine z_iconst C 0 dL_law_983 (by decide) ?_
  refine z_lald C 0 2 rfl rfl (show ¬ (_ ∨ _) from by decide) dL_law_984 ?_
  refine z_lload C 0 dL_law_985 rfl ?_
  exact z_lcmp_eq C 993 dL_law_987 dL_law_988 (by decide) (fun _ => hE) (fun hn => absurd ((hk0 ho).trans (hr0 ho).symm) hn)
set_option maxHeartbeats 4000000 in
set_option maxRecDepth 100000 in
theorem law_c16 (hst : l.stackTraces = false) (C : zC X D 8 code RL wsL_law (zT g)) (hR : zR X room_1) (hL : zL X l) (CL : zCL X ea) (SC : zSc X b L xs) {A : zNt} {P : zPa} {x m : zS} {f : Nat → Int64} (hx : ST A P x) (hm : SM A P m) {i : Int32} (hin : ∀ v : Int32, 0 ≤ v.toInt → v.toInt ≤ 4 → vp_in (i + v) L) (hc : cells + 3 ≤ 658665) (hs : slots + 18 ≤ 7120110)
    (K : ∀ (A' : zNt) (P' : zPa) (x' m' : zS) (f' : Nat → Int64), ST A' P' x' → SM A' P' m' → zV X D 8 (cells + 3) (slots + 18) (zLW a bm g o (x', m', f')) 1077 (lvH b a bm o i) []) : zV X D 8 cells slots (zLW a bm g o (x, m, f)) 996 (lvH b a bm o i) [] := by
  refine z_aload_n C 1 dL_law_996 rfl ?_
  refine z_asl (wa := WM bm g m) (wb := [(o, .inl (g 2, 1, .inr (.inl f)))]) (wc := WX a g x) ?_
  refine z_fi C hR hL (wr := WM bm g m ++ [(o, .inl (g 2, 1, .inr (.inl f)))]) (wf := WX a g) (u0 := x) (st := []) (As := []) (c_X4_worst l D a g x _ (X_worst hx)) gL_law_X4_worst rfl ⟨by decide +kernel, by decide +kernel, (show (parseMethodDescriptor yX4_worst.desc).map (fun d => d.parameters.length) = some 0 from by decide +kernel)⟩ ⟨Nat.le_of_ble_eq_true rfl, Nat.le_of_ble_eq_true rfl⟩ ⟨Nat.le_trans (Nat.le_add_right _ 3) hc, Nat.le_trans (Nat.le_add_right _ 18) hs⟩ 0 4 rfl rfl rfl rfl (Nat.le_of_ble_eq_true rfl) dL_law_997 (fun r x1 hr => ?_)
  obtain ⟨hr, hx⟩ := hr
  refine z_widen (k := cells + 3) (n := slots + 18) (Nat.add_le_add_left (Nat.le_of_ble_eq_true rfl) _) (Nat.add_le_add_left (Nat.le_of_ble_eq_true rfl) _) ?_
  refine z_asr (wa := WM bm g m) (wb := [(o, .inl (g 2, 1, .inr (.inl f)))]) (wc := WX a g x1) ?_
  refine z_swap (wa := WM bm g m) (wb := zWO a g o (x1, f)) ?_
  refine z_aload_n C 2 dL_law_1000 rfl ?_
  refine z_fi C hR hL (wr := zWO a g o (x1, f)) (wf := WM bm g) (u0 := m) (As := []) (c_X5_worst l D bm g m _ (M_worst hm)) gL_law_X5_worst rfl ⟨by decide +kernel, by decide +kernel, (show (parseMethodDescriptor yX5_worst.desc).map (fun d => d.parameters.length) = some 0 from by decide +kernel)⟩ ⟨Nat.le_of_ble_eq_true rfl, Nat.le_of_ble_eq_true rfl⟩ ⟨hc, hs⟩ 0 5 rfl rfl rfl rfl (Nat.le_of_ble_eq_true rfl) dL_law_1001 (fun q m1 hq => ?_)
  obtain ⟨hq, hm1⟩ := hq
  refine z_widen (k := cells + 3) (n := slots + 18) (Nat.le_refl _) (Nat.le_refl _) ?_
  refine z_icmp_eq C 1077 dL_law_1004 (by decide) (fun _ => ?_) (fun hn => absurd (hr.trans hq.symm) hn)
  exact z_swap (wa := zWO a g o (x1, f)) (wb := WM bm g m1) (K _ _ x1 m1 f hx hm1)
set_option maxHeartbeats 4000000 in
set_option maxRecDepth 100000 in
theorem law_c17 (hst : l.stackTraces = false) (C : zC X D 8 code RL wsL_law (zT g)) (hR : zR X room_1) (hL : zL X l) (CL : zCL X ea) (SC : zSc X b L xs) {A : zNt} {P : zPa} {x m : zS} {f : Nat → Int64} (hx : ST A P x) (hm : SM A P m) {i : Int32} (hin : ∀ v : Int32, 0 ≤ v.toInt → v.toInt ≤ 4 → vp_in (i + v) L) (hc : cells + 3 ≤ 658665) (hs : slots + 18 ≤ 7120110)
    (K : ∀ (A' : zNt) (P' : zPa) (x' m' : zS) (f' : Nat → Int64), ST A' P' x' → SM A' P' m' → zV X D 8 (cells + 3) (slots + 18) (zLW a bm g o (x', m', f')) 1077 (lvH b a bm o i) []) : zV X D 8 cells slots (zLW a bm g o (x, m, f)) 1009 (lvH b a bm o i) [] := by
  refine z_aload_n C 1 dL_law_1009 rfl ?_
  refine z_arg C SC 0 4 1 rfl rfl (by decide) (hin 1 (by decide) (by decide)) dL_law_1010 dL_law_1011 dL_law_1013 dL_law_1014 dL_law_1015 ?_
  refine z_aload_n C 3 dL_law_1016 rfl ?_
  refine z_fw C hR hL CL (wr := WM bm g m) (wf := zWO a g o) (u0 := (x, f)) (As := [.ref (a 0), .int (xs (i + 1).toNatClampNeg), .ref o]) (c_L_trees l hst D a g ea o x f (xs (i + 1).toNatClampNeg) (oSt A P (fun t => pT A t 14) (xs (i + 1).toNatClampNeg)) (X_trees hx (xs (i + 1).toNatClampNeg))) gL_law_L_trees rfl ⟨by decide +kernel, by decide +kernel, (show (parseMethodDescriptor yL_trees.desc).map (fun d => d.parameters.length) = some 3 from by decide +kernel)⟩ ⟨Nat.le_of_ble_eq_true rfl, Nat.le_of_ble_eq_true rfl⟩ ⟨Nat.le_trans (Nat.add_le_add_left (Nat.le_of_ble_eq_true rfl) _) hc, Nat.le_trans (Nat.add_le_add_left (Nat.le_of_ble_eq_true rfl) _) hs⟩ rfl (Nat.le_of_ble_eq_true rfl) dL_law_1017 (fun k u hk => ?_)
  obtain ⟨x1, f1⟩ := u
  obtain ⟨hk1, hk3, hk0, hx1⟩ := hk
  refine z_widen (k := cells + 3) (n := slots + 18) (Nat.add_le_add_left (Nat.le_of_ble_eq_true rfl) _) (Nat.add_le_add_left (Nat.le_of_ble_eq_true rfl) _) ?_
  refine z_istore (lv' := [(5, .int k), (0, .ref b), (1, .ref (a 0)), (2, .ref (bm 0)), (3, .ref o), (4, .int i)]) C dL_law_1020 (by decide) rfl ?_
  refine z_swap (wa := WM bm g m) (wb := zWO a g o (x1, f1)) ?_
  refine z_aload_n C 3 dL_law_1022 rfl ?_
  refine z_arg C SC 1 5 1 rfl rfl (by decide) (hin 1 (by decide) (by decide)) dL_law_1023 dL_law_1024 dL_law_1026 dL_law_1027 dL_law_1028 ?_
  refine z_fl C hR hL (wr := zWO a g o (x1, f1)) (wf := WM bm g) (u0 := m) (As := [.int (xs (i + 1).toNatClampNeg)]) (c_X5_trees l D bm g m (xs (i + 1).toNatClampNeg) _ (M_trees hm (xs (i + 1).toNatClampNeg))) gL_law_X5_trees rfl ⟨by decide +kernel, by decide +kernel, (show (parseMethodDescriptor yX5_trees.desc).map (fun d => d.parameters.length) = some 1 from by decide +kernel)⟩ ⟨Nat.le_of_ble_eq_true rfl, Nat.le_of_ble_eq_true rfl⟩ ⟨hc, hs⟩ 0 5 rfl rfl rfl rfl (Nat.le_of_ble_eq_true rfl) dL_law_1029 (fun r m1 hr => ?_)
  obtain ⟨hr5, hr0, hm1⟩ := hr
  refine z_widen (k := cells + 3) (n := slots + 18) (Nat.le_refl _) (Nat.le_refl _) ?_
  refine z_lstore (lv' := [(6, .long r), (5, .int k), (0, .ref b), (1, .ref (a 0)), (2, .ref (bm 0)), (3, .ref o), (4, .int i)]) C dL_law_1032 (by decide) rfl ?_
  refine z_aload_n C 4 dL_law_1034 rfl ?_
  refine z_fi C hR hL (wr := zWO a g o (x1, f1)) (wf := WM bm g) (u0 := m1) (As := []) (c_X5_thrown l D bm g m1 (fun t => t = gI m1 5) rfl) gL_law_X5_thrown rfl ⟨by decide +kernel, by decide +kernel, (show (parseMethodDescriptor yX5_thrown.desc).map (fun d => d.parameters.length) = some 0 from by decide +kernel)⟩ ⟨Nat.le_of_ble_eq_true rfl, Nat.le_of_ble_eq_true rfl⟩ ⟨hc, hs⟩ 0 5 rfl rfl rfl rfl (Nat.le_of_ble_eq_true rfl) dL_law_1035 (fun t m2 ht => ?_)
  obtain ⟨rfl, ht⟩ := ht
  refine z_widen (k := cells + 3) (n := slots + 18) (Nat.le_refl _) (Nat.le_refl _) ?_
  refine z_iload C 1 dL_law_1038 rfl ?_
  refine z_icmp_eq C 1045 dL_law_1040 (by decide) (fun _ => ?_) (fun hn => absurd (ht.trans (hr5.trans hk1.symm)) hn)
  have hE : zV X D 8 (cells + 3) (slots + 18) (zWO a g o (x1, f1) ++ WM bm g m1) 1061 [(6, .long r), (5, .int k), (0, .ref b), (1, .ref (a 0)), (2, .ref (bm 0)), (3, .ref o), (4, .int i)] [] := by
    refine z_goto C 1077 dL_law_1061 (by decide) ?_
    refine z_sub (lv' := lvH b a bm o i) [2, 3, 4, 5, 6] rfl ?_
    exact z_swap (wa := zWO a g o (x1, f1)) (wb := WM bm g m1) (K _ _ x1 m1 f1 hx1 hm1)
  refine z_iload C 1 dL_law_1045 rfl ?_
  refine z_if_ne C 1061 dL_law_1047 (by decide) (fun _ => hE) (fun hz => ?_)
  have ho := wp_zero hk1 hk3 hz
  refine z_aload_n C 5 dL_law_1050 rfl ?_
  refine z_iconst C 0 dL_law_1051 (by decide) ?_
  refine z_lald C 0 2 rfl rfl (show ¬ (_ ∨ _) from by decide) dL_law_1052 ?_
  refine z_lload C 0 dL_law_1053 rfl ?_
  exact z_lcmp_eq C 1061 dL_law_1055 dL_law_1056 (by decide) (fun _ => hE) (fun hn => absurd ((hk0 ho).trans (hr0 ho).symm) hn)
set_option maxHeartbeats 4000000 in
set_option maxRecDepth 100000 in
theorem law_c18 (hst : l.stackTraces = false) (C : zC X D 8 code RL wsL_law (zT g)) (hR : zR X room_1) (hL : zL X l) (CL : zCL X ea) (SC : zSc X b L xs) {A : zNt} {P : zPa} {x m : zS} {f : Nat → Int64} (hx : ST A P x) (hm : SM A P m) {i : Int32} (hin : ∀ v : Int32, 0 ≤ v.toInt → v.toInt ≤ 4 → vp_in (i + v) L) (hc : cells + 3 ≤ 658665) (hs : slots + 18 ≤ 7120110)
    (K : ∀ (A' : zNt) (P' : zPa) (x' m' : zS) (f' : Nat → Int64), ST A' P' x' → SM A' P' m' → zV X D 8 (cells + 3) (slots + 18) (zLW a bm g o (x', m', f')) 1077 (lvH b a bm o i) []) : zV X D 8 cells slots (zLW a bm g o (x, m, f)) 1064 (lvH b a bm o i) [] := by
  refine z_aload_n C 1 dL_law_1064 rfl ?_
  refine z_asl (wa := WM bm g m) (wb := [(o, .inl (g 2, 1, .inr (.inl f)))]) (wc := WX a g x) ?_
  refine z_fi C hR hL (wr := WM bm g m ++ [(o, .inl (g 2, 1, .inr (.inl f)))]) (wf := WX a g) (u0 := x) (st := []) (As := []) (c_X4_parts l D a g x _ (X_parts hx)) gL_law_X4_parts rfl ⟨by decide +kernel, by decide +kernel, (show (parseMethodDescriptor yX4_parts.desc).map (fun d => d.parameters.length) = some 0 from by decide +kernel)⟩ ⟨Nat.le_of_ble_eq_true rfl, Nat.le_of_ble_eq_true rfl⟩ ⟨Nat.le_trans (Nat.le_add_right _ 3) hc, Nat.le_trans (Nat.le_add_right _ 18) hs⟩ 0 4 rfl rfl rfl rfl (Nat.le_of_ble_eq_true rfl) dL_law_1065 (fun r x1 hr => ?_)
  obtain ⟨rfl, hr⟩ := hr
  refine z_widen (k := cells + 3) (n := slots + 18) (Nat.add_le_add_left (Nat.le_of_ble_eq_true rfl) _) (Nat.add_le_add_left (Nat.le_of_ble_eq_true rfl) _) ?_
  refine z_asr (wa := WM bm g m) (wb := [(o, .inl (g 2, 1, .inr (.inl f)))]) (wc := WX a g x) ?_
  refine z_swap (wa := WM bm g m) (wb := zWO a g o (x, f)) ?_
  refine z_aload_n C 2 dL_law_1068 rfl ?_
  refine z_fi C hR hL (wr := zWO a g o (x, f)) (wf := WM bm g) (u0 := m) (As := []) (c_X5_parts l D bm g m _ (M_parts hm)) gL_law_X5_parts rfl ⟨by decide +kernel, by decide +kernel, (show (parseMethodDescriptor yX5_parts.desc).map (fun d => d.parameters.length) = some 0 from by decide +kernel)⟩ ⟨Nat.le_of_ble_eq_true rfl, Nat.le_of_ble_eq_true rfl⟩ ⟨hc, hs⟩ 0 5 rfl rfl rfl rfl (Nat.le_of_ble_eq_true rfl) dL_law_1069 (fun q m1 hq => ?_)
  obtain ⟨hq, hm1⟩ := hq
  refine z_widen (k := cells + 3) (n := slots + 18) (Nat.le_refl _) (Nat.le_refl _) ?_
  refine z_icmp_eq C 1077 dL_law_1072 (by decide) (fun _ => ?_) (fun hn => absurd (hr.trans hq.symm) hn)
  exact z_swap (wa := zWO a g o (x, f)) (wb := WM bm g m1) (K _ _ x m1 f hx hm1)
end ZLC

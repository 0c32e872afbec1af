def W_L_law_L667 (v32 : Int32) (x44 : Int32) (x58 : Int32) (x216 : Int32) (x222 : Int64) (K : Int32 → zNt → zPa → (Nat → Int32) → (Nat → Int32) → (Nat → Int32) → Prop) : Nat → Int32 → Int32 → zNt → zPa → (Nat → Int32) → (Nat → Int32) → (Nat → Int32) → Prop
  | 0, _, _, _, _, _, _, _ => False
  | n + 1, v271, v272, A275, P276, m277, t278, e279 =>
    vp_in 1 4 ∧
    ((m277 (ix 1)) ≤ v272 →
    K v271 A275 P276 m277 t278 e279) ∧ (¬ (m277 (ix 1)) ≤ v272 →
    vp_in ((5 * v272) + 4) 64 ∧
    ∃ k282 : Int32 → zNt → zPa → (Nat → Int32) → (Nat → Int32) → (Nat → Int32) → Prop, (∀ (v285 : Int32) (A288 : zNt) (P289 : zPa) (m290 t291 e292 : Nat → Int32), k282 v285 A288 P289 m290 t291 e292 →
    ∀ x293 : Int32, x293 = v285 →
    ∃ k294 : Int32 → zNt → zPa → (Nat → Int32) → (Nat → Int32) → (Nat → Int32) → Prop, (∀ (v297 : Int32) (A300 : zNt) (P301 : zPa) (m302 t303 e304 : Nat → Int32), k294 v297 A300 P301 m302 t303 e304 →
    ∀ x305 : Int32, x305 = (v271 + v297) →
    (x293 = 0 →
    vp_in ((5 * v272) + 4) 64 ∧
    vp_in ((5 * v272) + 4) 64 ∧
    ∀ e308 : Nat → Int32, e308 = upd e304 (ix ((5 * v272) + 4)) (e304 (ix ((5 * v272) + 4))) →
    ∀ x309 : Int32, x309 = v272 + 1 →
    W_L_law_L667 v32 x44 x58 x216 x222  K n x305 x309 A300 P301 m302 t303 e308) ∧ (¬ x293 = 0 →
    vp_in ((5 * v272) + 4) 64 ∧
    ∀ e311 : Nat → Int32, e311 = upd e304 (ix ((5 * v272) + 4)) 1 →
    ∀ x312 : Int32, x312 = v272 + 1 →
    W_L_law_L667 v32 x44 x58 x216 x222  K n x305 x312 A300 P301 m302 t303 e311)) ∧ ((x293 = 0 →
    k294 0 A288 P289 m290 t291 e292) ∧ (¬ x293 = 0 →
    k294 1 A288 P289 m290 t291 e292))) ∧ ((¬ (e279 (ix ((5 * v272) + 4))) = 0 →
    k282 0 A275 P276 m277 t278 e279) ∧ ((e279 (ix ((5 * v272) + 4))) = 0 →
    ∀ (r313 : Int64) (A316 : zNt) (P317 : zPa), aAct A275 P276 (9) v272 (0) (0) (0) = (r313, A316, P317) →
    (¬ r313 = (-161300000000000000) →
    k282 0 A316 P317 m277 t278 e279) ∧ (r313 = (-161300000000000000) →
    k282 1 A316 P317 m277 t278 e279))))
def W_L_law_L67 (K : Int32 → zNt → zPa → (Nat → Int32) → (Nat → Int32) → (Nat → Int32) → Prop) : Nat → Int32 → Int32 → zNt → zPa → (Nat → Int32) → (Nat → Int32) → (Nat → Int32) → Prop
  | 0, _, _, _, _, _, _, _ => False
  | n + 1, v31, v32, A35, P36, m37, t38, e39 =>
    (60 ≤ v32 →
    K v31 A35 P36 m37 t38 e39) ∧ (¬ 60 ≤ v32 →
    (v31 = 0 →
    K v31 A35 P36 m37 t38 e39) ∧ (¬ v31 = 0 →
    0 ≤ (v32).toInt ∧ ∀ r40 : Int32, 0 ≤ (r40).toInt →
    ∀ x44 : Int32, x44 = r40 →
    ∃ k45 : Int32 → zNt → zPa → (Nat → Int32) → (Nat → Int32) → (Nat → Int32) → Prop, (∀ (v48 : Int32) (A51 : zNt) (P52 : zPa) (m53 t54 e55 : Nat → Int32), k45 v48 A51 P52 m53 t54 e55 →
    ∀ x56 : Int32, x56 = v48 →
    ¬ (26 : Int32) = 0 ∧
    ∀ x58 : Int32, x58 = (x44 / 26) →
    vp_in 0 4 ∧
    ∃ k60 : Int32 → zNt → zPa → (Nat → Int32) → (Nat → Int32) → (Nat → Int32) → Prop, (∀ (v63 : Int32) (A66 : zNt) (P67 : zPa) (m68 t69 e70 : Nat → Int32), k60 v63 A66 P67 m68 t69 e70 →
    ∀ x71 : Int32, x71 = v63 →
    ¬ (6 : Int32) = 0 ∧
    ∀ x73 : Int32, x73 = (x58 / 6) →
    ∃ k74 : Int32 → zNt → zPa → (Nat → Int32) → (Nat → Int32) → (Nat → Int32) → Prop, (∀ (v77 : Int32) (A80 : zNt) (P81 : zPa) (m82 t83 e84 : Nat → Int32), k74 v77 A80 P81 m82 t83 e84 →
    (v77 = 0 →
    ∀ x85 : Int32, x85 = 0 →
    ∀ x86 : Int32, x86 = v32 + 1 →
    W_L_law_L67  K n x85 x86 A80 P81 m82 t83 e84) ∧ (¬ v77 = 0 →
    W_L_areSound A80 P81 m82 t83 e84 x58 (fun r87 =>
    (r87 = 0 →
    ∀ x90 : Int32, x90 = 0 →
    ∀ x91 : Int32, x91 = v32 + 1 →
    W_L_law_L67  K n x90 x91 A80 P81 m82 t83 e84) ∧ (¬ r87 = 0 →
    ¬ (30 : Int32) = 0 ∧
    (0 < (irm v32 30) →
    ∀ x93 : Int32, x93 = 1 →
    ∀ x94 : Int32, x94 = v32 + 1 →
    W_L_law_L67  K n x93 x94 A80 P81 m82 t83 e84) ∧ (¬ 0 < (irm v32 30) →
    ¬ (3 : Int32) = 0 ∧
    W_L_isRefused A80 P81 m82 t83 e84 (x44 / 3) (fun r96 =>
    (r96 = 0 →
    ∀ x99 : Int32, x99 = 0 →
    ∀ x100 : Int32, x100 = v32 + 1 →
    W_L_law_L67  K n x99 x100 A80 P81 m82 t83 e84) ∧ (¬ r96 = 0 →
    ∀ x101 : Int32, x101 = 1 →
    ∀ x102 : Int32, x102 = v32 + 1 →
    W_L_law_L67  K n x101 x102 A80 P81 m82 t83 e84))))))) ∧ ((2 ≤ x56 →
    ∃ k103 : zNt → zPa → (Nat → Int32) → (Nat → Int32) → (Nat → Int32) → Prop, (∀  (A108 : zNt) (P109 : zPa) (m110 t111 e112 : Nat → Int32), k103 A108 P109 m110 t111 e112 →
    ∃ k113 : zNt → zPa → (Nat → Int32) → (Nat → Int32) → (Nat → Int32) → Prop, (∀  (A118 : zNt) (P119 : zPa) (m120 t121 e122 : Nat → Int32), k113 A118 P119 m120 t121 e122 →
    ∃ k123 : zNt → zPa → (Nat → Int32) → (Nat → Int32) → (Nat → Int32) → Prop, (∀  (A128 : zNt) (P129 : zPa) (m130 t131 e132 : Nat → Int32), k123 A128 P129 m130 t131 e132 →
    (¬ x56 = 16 →
    (¬ x56 = 17 →
    (x56 ≤ 17 →
    k74 v31 A128 P129 m130 t131 e132) ∧ (¬ x56 ≤ 17 →
    vp_in 0 4 ∧
    ((m130 (ix 0)) ≤ 0 →
    k74 v31 A128 P129 m130 t131 e132) ∧ (¬ (m130 (ix 0)) ≤ 0 →
    ∀ r134 : Int32, r134 = P129.2.2.2 →
    ∀ x137 : Int32, x137 = r134 →
    ∀ (r138 : Int64) (A141 : zNt) (P142 : zPa), aAct A128 P129 (5) x71 (0) (0) (0) = (r138, A141, P142) →
    ∀ x143 : Int64, x143 = r138 →
    ∃ k144 : Int32 → zNt → zPa → (Nat → Int32) → (Nat → Int32) → (Nat → Int32) → Prop, (∀ (v147 : Int32) (A150 : zNt) (P151 : zPa) (m152 t153 e154 : Nat → Int32), k144 v147 A150 P151 m152 t153 e154 →
    ∀ x155 : Int32, x155 = v147 →
    vp_in 2 4 ∧
    ∃ k157 : Int32 → zNt → zPa → (Nat → Int32) → (Nat → Int32) → (Nat → Int32) → Prop, (∀ (v160 : Int32) (A163 : zNt) (P164 : zPa) (m165 t166 e167 : Nat → Int32), k157 v160 A163 P164 m165 t166 e167 →
    vp_in 2 4 ∧
    ∀ m169 : Nat → Int32, m169 = upd m165 (ix 2) ((m152 (ix 2)) + v160) →
    ∀ r170 : Int32, r170 = P164.2.2.2 →
    vp_in 3 4 ∧
    ∀ m174 : Nat → Int32, m174 = upd m169 (ix 3) r170 →
    k74 x155 A163 P164 m174 t166 e167) ∧ ((0 ≤ x143 →
    k157 1 A150 P151 m152 t153 e154) ∧ (¬ 0 ≤ x143 →
    k157 0 A150 P151 m152 t153 e154))) ∧ ((¬ x143 = (-161300000000000000) →
    vp_in 2 4 ∧
    (¬ x143 = (((m130 (ix 2)) + 1)).toInt64 →
    k144 0 A141 P142 m130 t131 e132) ∧ (x143 = (((m130 (ix 2)) + 1)).toInt64 →
    vp_in 2 4 ∧
    (0 < (m130 (ix 2)) →
    k144 1 A141 P142 m130 t131 e132) ∧ (¬ 0 < (m130 (ix 2)) →
    ∀ r177 : Int32, r177 = P142.2.2.2 →
    (¬ r177 = 0 →
    k144 0 A141 P142 m130 t131 e132) ∧ (r177 = 0 →
    ∀ r180 : Int32, r180 = bI (aClosed P142) →
    (r180 = 0 →
    k144 0 A141 P142 m130 t131 e132) ∧ (¬ r180 = 0 →
    k144 1 A141 P142 m130 t131 e132))))) ∧ (x143 = (-161300000000000000) →
    vp_in 2 4 ∧
    ((m130 (ix 2)) ≤ 0 →
    k144 0 A141 P142 m130 t131 e132) ∧ (¬ (m130 (ix 2)) ≤ 0 →
    ∀ r184 : Int32, r184 = P142.2.2.2 →
    (¬ r184 = x137 →
    k144 0 A141 P142 m130 t131 e132) ∧ (r184 = x137 →
    k144 1 A141 P142 m130 t131 e132))))))) ∧ (x56 = 17 →
    ∀ r187 : Int32, r187 = nI P129.1 →
    ∀ P190 : zPa, P190 = (0, 0, 0, 0) →
    vp_in 2 4 ∧
    ∃ k192 : Int32 → zNt → zPa → (Nat → Int32) → (Nat → Int32) → (Nat → Int32) → Prop, (∀ (v195 : Int32) (A198 : zNt) (P199 : zPa) (m200 t201 e202 : Nat → Int32), k192 v195 A198 P199 m200 t201 e202 →
    ∀ x203 : Int32, x203 = v195 →
    vp_in 2 4 ∧
    ∀ m205 : Nat → Int32, m205 = upd m200 (ix 2) 0 →
    vp_in 3 4 ∧
    ∀ m207 : Nat → Int32, m207 = upd m205 (ix 3) 0 →
    k74 x203 A198 P199 m207 t201 e202) ∧ ((¬ r187 = (m130 (ix 2)) →
    k192 0 A128 P190 m130 t131 e132) ∧ (r187 = (m130 (ix 2)) →
    ∀ r208 : Int32, r208 = nI P190.1 →
    ∀ P211 : zPa, P211 = (0, 0, 0, 0) →
    (¬ r208 = 0 →
    k192 0 A128 P211 m130 t131 e132) ∧ (r208 = 0 →
    ∀ r212 : Int32, r212 = bI (aClosed P211) →
    (¬ r212 = 0 →
    k192 0 A128 P211 m130 t131 e132) ∧ (r212 = 0 →
    k192 1 A128 P211 m130 t131 e132)))))) ∧ (x56 = 16 →
    ¬ (5000 : Int32) = 0 ∧
    ∀ x216 : Int32, x216 = (irm x73 5000) →
    ∀ (r217 : Int64) (A220 : zNt) (P221 : zPa), aAct A128 P129 (4) x216 (0) (0) (0) = (r217, A220, P221) →
    ∀ x222 : Int64, x222 = r217 →
    ∀ x223 : Int32, x223 = 0 →
    ∀ x224 : Int32, x224 = 0 →
    ∃ (K225 : Int32 → zNt → zPa → (Nat → Int32) → (Nat → Int32) → (Nat → Int32) → Prop) (n226 : Nat), n226 ≤ 16 ∧ (∀ (v231 : Int32) (A234 : zNt) (P235 : zPa) (m236 t237 e238 : Nat → Int32), K225 v231 A234 P235 m236 t237 e238 →
    (¬ x222 = (v231).toInt64 →
    ∀ x239 : Int32, x239 = 0 →
    k74 x239 A234 P235 m236 t237 e238) ∧ (x222 = (v231).toInt64 →
    ∀ r240 : Int32, r240 = iI (aWst A234 (nko A234)).1 →
    ∃ k243 : zNt → zPa → (Nat → Int32) → (Nat → Int32) → (Nat → Int32) → Prop, (∀  (A248 : zNt) (P249 : zPa) (m250 t251 e252 : Nat → Int32), k243 A248 P249 m250 t251 e252 →
    ∀ (r253 : Int64) (A256 : zNt) (P257 : zPa), aAct A248 P249 (4) x216 (0) (0) (0) = (r253, A256, P257) →
    (¬ r253 = 0 →
    ∀ x258 : Int32, x258 = 0 →
    k74 x258 A256 P257 m250 t251 e252) ∧ (r253 = 0 →
    ∀ x259 : Int32, x259 = 1 →
    k74 x259 A256 P257 m250 t251 e252)) ∧ ((r240 < 0 →
    k243 A234 P235 m236 t237 e238) ∧ (¬ r240 < 0 →
    ∀ r260 : Int32, r260 = iI (aWst A234 (nko A234)).1 →
    ∃ o266 : Nat, o266 < nko A234 ∧ r260 = nI o266 ∧ nwd A234 o266 = false ∧
    ∀ r263 : Int64, r263 = lI (aScr A234 o266) →
    ((x216).toInt64 < r263 →
    ∀ x270 : Int32, x270 = 0 →
    k74 x270 A234 P235 m236 t237 e238) ∧ (¬ (x216).toInt64 < r263 →
    k243 A234 P235 m236 t237 e238))))) ∧ W_L_law_L667 v32 x44 x58 x216 x222  K225 n226 x223 x224 A220 P221 m130 t131 e132)) ∧ ((16 ≤ x56 →
    k123 A118 P119 m120 t121 e122) ∧ (¬ 16 ≤ x56 →
    (x56 ≤ 11 →
    k123 A118 P119 m120 t121 e122) ∧ (¬ x56 ≤ 11 →
    vp_in 1 4 ∧
    ((m120 (ix 1)) ≤ 0 →
    k123 A118 P119 m120 t121 e122) ∧ (¬ (m120 (ix 1)) ≤ 0 →
    vp_in 1 4 ∧
    ¬ ((m120 (ix 1)) : Int32) = 0 ∧
    ∀ x321 : Int32, x321 = (irm x73 (m120 (ix 1))) →
    ¬ (14 : Int32) = 0 ∧
    ¬ (3 : Int32) = 0 ∧
    ∃ k324 : Int32 → zNt → zPa → (Nat → Int32) → (Nat → Int32) → (Nat → Int32) → Prop, (∀ (v327 : Int32) (A330 : zNt) (P331 : zPa) (m332 t333 e334 : Nat → Int32), k324 v327 A330 P331 m332 t333 e334 →
    ∀ x335 : Int32, x335 = v327 →
    ∀ (r336 : Int64) (A339 : zNt) (P340 : zPa), aAct A330 P331 (3) x321 x335 (0) (0) = (r336, A339, P340) →
    vp_in ((5 * x321) + 4) 64 ∧
    ∃ k342 : Int32 → zNt → zPa → (Nat → Int32) → (Nat → Int32) → (Nat → Int32) → Prop, (∀ (v345 : Int32) (A348 : zNt) (P349 : zPa) (m350 t351 e352 : Nat → Int32), k342 v345 A348 P349 m350 t351 e352 →
    ∀ x353 : Int32, x353 = v345 →
    vp_in ((5 * x321) + 4) 64 ∧
    ∀ e355 : Nat → Int32, e355 = upd e352 (ix ((5 * x321) + 4)) x335 →
    k74 x353 A348 P349 m350 t351 e355) ∧ ((¬ r336 = ((e334 (ix ((5 * x321) + 4)))).toInt64 →
    k342 0 A339 P340 m332 t333 e334) ∧ (r336 = ((e334 (ix ((5 * x321) + 4)))).toInt64 →
    ∀ (r356 : Int64) (A359 : zNt) (P360 : zPa), aAct A339 P340 (3) x321 x335 (0) (0) = (r356, A359, P360) →
    (¬ r356 = (x335).toInt64 →
    k342 0 A359 P360 m332 t333 e334) ∧ (r356 = (x335).toInt64 →
    k342 1 A359 P360 m332 t333 e334)))) ∧ ((¬ (irm (x73 / 14) 3) = 0 →
    k324 0 A118 P119 m120 t121 e122) ∧ ((irm (x73 / 14) 3) = 0 →
    k324 1 A118 P119 m120 t121 e122))))))) ∧ ((12 ≤ x56 →
    k113 A108 P109 m110 t111 e112) ∧ (¬ 12 ≤ x56 →
    vp_in 0 4 ∧
    ((m110 (ix 0)) ≤ 1 →
    k113 A108 P109 m110 t111 e112) ∧ (¬ (m110 (ix 0)) ≤ 1 →
    vp_in 1 4 ∧
    (12 ≤ (m110 (ix 1)) →
    k113 A108 P109 m110 t111 e112) ∧ (¬ 12 ≤ (m110 (ix 1)) →
    vp_in 0 4 ∧
    ¬ (((m110 (ix 0)) - 1) : Int32) = 0 ∧
    vp_in 0 4 ∧
    ¬ ((m110 (ix 0)) : Int32) = 0 ∧
    ∀ x367 : Int32, x367 = (irm ((x71 + 1) + (irm x73 ((m110 (ix 0)) - 1))) (m110 (ix 0))) →
    ¬ (5 : Int32) = 0 ∧
    ¬ (4 : Int32) = 0 ∧
    ∃ k370 : Int32 → zNt → zPa → (Nat → Int32) → (Nat → Int32) → (Nat → Int32) → Prop, (∀ (v373 : Int32) (A376 : zNt) (P377 : zPa) (m378 t379 e380 : Nat → Int32), k370 v373 A376 P377 m378 t379 e380 →
    ∀ x381 : Int32, x381 = v373 →
    vp_in 1 4 ∧
    ∀ x383 : Int32, x383 = (5 * (m378 (ix 1))) →
    ∀ r384 : Int32, r384 = nI (nprt A376) →
    ∀ x387 : Int32, x387 = r384 →
    ∃ j391 : Nat, j391 < nnn A376 ∧ x71 = nI j391 ∧
    ∀ r388 : Int64, r388 = lI (pT A376 j391 14) →
    ∀ x394 : Int64, x394 = r388 →
    vp_in x383 64 ∧
    ∀ e396 : Nat → Int32, e396 = upd e380 (ix x383) x71 →
    vp_in (x383 + 1) 64 ∧
    ∀ e398 : Nat → Int32, e398 = upd e396 (ix (x383 + 1)) x367 →
    vp_in (x383 + 2) 64 ∧
    ∀ e400 : Nat → Int32, e400 = upd e398 (ix (x383 + 2)) x381 →
    ¬ (7 : Int32) = 0 ∧
    ¬ (5 : Int32) = 0 ∧
    vp_in (x383 + 3) 64 ∧
    ∀ e404 : Nat → Int32, e404 = upd e400 (ix (x383 + 3)) (1 + (irm (x73 / 7) 5)) →
    vp_in (x383 + 3) 64 ∧
    ∀ (r406 : Int64) (A409 : zNt) (P410 : zPa), aAct A376 P377 (2) x71 x367 x381 (e404 (ix (x383 + 3))) = (r406, A409, P410) →
    vp_in 1 4 ∧
    ∃ k412 : zNt → zPa → (Nat → Int32) → (Nat → Int32) → (Nat → Int32) → Prop, (∀  (A417 : zNt) (P418 : zPa) (m419 t420 e421 : Nat → Int32), k412 A417 P418 m419 t420 e421 →
    ∀ x422 : Int32, x422 = 0 →
    vp_in 1 4 ∧
    vp_in 1 4 ∧
    ∀ m425 : Nat → Int32, m425 = upd m419 (ix 1) ((m419 (ix 1)) + 1) →
    k74 x422 A417 P418 m425 t420 e421) ∧ ((¬ r406 = ((m378 (ix 1))).toInt64 →
    k412 A409 P410 m378 t379 e404) ∧ (r406 = ((m378 (ix 1))).toInt64 →
    ∀ r426 : Int32, r426 = nI (nprt A409) →
    (x387 < r426 →
    k412 A409 P410 m378 t379 e404) ∧ (¬ x387 < r426 →
    ∀ r429 : Int32, r429 = nI (nprt A409) →
    (r429 < (x387 - 1) →
    k412 A409 P410 m378 t379 e404) ∧ (¬ r429 < (x387 - 1) →
    ∃ j435 : Nat, j435 < nnn A409 ∧ x71 = nI j435 ∧
    ∀ r432 : Int64, r432 = lI (pT A409 j435 14) →
    (r432 < x394 →
    k412 A409 P410 m378 t379 e404) ∧ (¬ r432 < x394 →
    ∀ x438 : Int32, x438 = 1 →
    vp_in 1 4 ∧
    vp_in 1 4 ∧
    ∀ m441 : Nat → Int32, m441 = upd m378 (ix 1) ((m378 (ix 1)) + 1) →
    k74 x438 A409 P410 m441 t379 e404)))))) ∧ ((¬ (irm (x73 / 5) 4) = 0 →
    ¬ (20 : Int32) = 0 ∧
    ¬ (300 : Int32) = 0 ∧
    k370 ((irm (x73 / 20) 300) - 150) A108 P109 m110 t111 e112) ∧ ((irm (x73 / 5) 4) = 0 →
    ¬ (20 : Int32) = 0 ∧
    ¬ (19999 : Int32) = 0 ∧
    k370 ((irm (x73 / 20) 19999) - 9999) A108 P109 m110 t111 e112))))))) ∧ ((¬ x56 = 2 →
    k103 A66 P67 m68 t69 e70) ∧ (x56 = 2 →
    vp_in 0 4 ∧
    ((m68 (ix 0)) ≤ 0 →
    k103 A66 P67 m68 t69 e70) ∧ (¬ (m68 (ix 0)) ≤ 0 →
    ¬ (19999 : Int32) = 0 ∧
    ∀ x448 : Int32, x448 = ((irm x73 19999) - 9999) →
    ¬ (2 : Int32) = 0 ∧
    ∀ (r450 : Int64) (A453 : zNt) (P454 : zPa), aAct A66 P67 (1) x71 x448 (irm x73 2) (0) = (r450, A453, P454) →
    vp_in (2 * x71) 12 ∧
    ∃ k456 : Int32 → zNt → zPa → (Nat → Int32) → (Nat → Int32) → (Nat → Int32) → Prop, (∀ (v459 : Int32) (A462 : zNt) (P463 : zPa) (m464 t465 e466 : Nat → Int32), k456 v459 A462 P463 m464 t465 e466 →
    ∀ x467 : Int32, x467 = v459 →
    ¬ (2 : Int32) = 0 ∧
    vp_in (2 * x71) 12 ∧
    ∀ t470 : Nat → Int32, t470 = upd t465 (ix (2 * x71)) (irm x73 2) →
    ¬ (2 : Int32) = 0 ∧
    (¬ (irm x73 2) = 1 →
    vp_in ((2 * x71) + 1) 12 ∧
    ∀ t473 : Nat → Int32, t473 = upd t470 (ix ((2 * x71) + 1)) 0 →
    k74 x467 A462 P463 m464 t473 e466) ∧ ((irm x73 2) = 1 →
    vp_in ((2 * x71) + 1) 12 ∧
    ∀ t475 : Nat → Int32, t475 = upd t470 (ix ((2 * x71) + 1)) x448 →
    k74 x467 A462 P463 m464 t475 e466)) ∧ ((¬ r450 = ((t69 (ix (2 * x71)))).toInt64 →
    k456 0 A453 P454 m68 t69 e70) ∧ (r450 = ((t69 (ix (2 * x71)))).toInt64 →
    k456 1 A453 P454 m68 t69 e70)))))) ∧ (¬ 2 ≤ x56 →
    ∀ (r476 : Int64) (A479 : zNt) (P480 : zPa), aAct A66 P67 (0) (0) (0) (0) (0) = (r476, A479, P480) →
    ∀ x481 : Int64, x481 = r476 →
    vp_in 0 4 ∧
    ∃ k483 : Int64 → zNt → zPa → (Nat → Int32) → (Nat → Int32) → (Nat → Int32) → Prop, (∀ (v486 : Int64) (A489 : zNt) (P490 : zPa) (m491 t492 e493 : Nat → Int32), k483 v486 A489 P490 m491 t492 e493 →
    ∃ k494 : Int32 → zNt → zPa → (Nat → Int32) → (Nat → Int32) → (Nat → Int32) → Prop, (∀ (v497 : Int32) (A500 : zNt) (P501 : zPa) (m502 t503 e504 : Nat → Int32), k494 v497 A500 P501 m502 t503 e504 →
    ∀ x505 : Int32, x505 = v497 →
    vp_in 0 4 ∧
    (0 ≤ x481 →
    vp_in 0 4 ∧
    ∀ m508 : Nat → Int32, m508 = upd m502 (ix 0) ((m502 (ix 0)) + 1) →
    k74 x505 A500 P501 m508 t503 e504) ∧ (¬ 0 ≤ x481 →
    vp_in 0 4 ∧
    ∀ m510 : Nat → Int32, m510 = upd m502 (ix 0) ((m502 (ix 0)) + 0) →
    k74 x505 A500 P501 m510 t503 e504)) ∧ ((¬ x481 = v486 →
    k494 0 A489 P490 m491 t492 e493) ∧ (x481 = v486 →
    k494 1 A489 P490 m491 t492 e493))) ∧ ((¬ (m68 (ix 0)) = 6 →
    vp_in 0 4 ∧
    k483 (((m68 (ix 0))).toInt64) A479 P480 m68 t69 e70) ∧ ((m68 (ix 0)) = 6 →
    k483 (-161300000000000000) A479 P480 m68 t69 e70))))) ∧ ((¬ (m53 (ix 0)) = 0 →
    vp_in 0 4 ∧
    ¬ ((m53 (ix 0)) : Int32) = 0 ∧
    k60 (irm x58 (m53 (ix 0))) A51 P52 m53 t54 e55) ∧ ((m53 (ix 0)) = 0 →
    k60 0 A51 P52 m53 t54 e55))) ∧ ((4 ≤ v32 →
    (9 ≤ v32 →
    ¬ (26 : Int32) = 0 ∧
    k45 (irm x44 26) A35 P36 m37 t38 e39) ∧ (¬ 9 ≤ v32 →
    k45 3 A35 P36 m37 t38 e39)) ∧ (¬ 4 ≤ v32 →
    k45 0 A35 P36 m37 t38 e39))))
def W_L_law (A : zNt) (P : zPa) (m t e : Nat → Int32) : Prop :=
    W_L_isRefused A P m t e (0) (fun r1 =>
    ∃ k4 : Int32 → zNt → zPa → (Nat → Int32) → (Nat → Int32) → (Nat → Int32) → Prop, (∀ (v7 : Int32) (A10 : zNt) (P11 : zPa) (m12 t13 e14 : Nat → Int32), k4 v7 A10 P11 m12 t13 e14 →
    ∀ x15 : Int32, x15 = v7 →
    ∀ x16 : Int32, x16 = 0 →
    ∃ (K17 : Int32 → zNt → zPa → (Nat → Int32) → (Nat → Int32) → (Nat → Int32) → Prop) (n18 : Nat), n18 ≤ 62 ∧ (∀ (v23 : Int32) (A26 : zNt) (P27 : zPa) (m28 t29 e30 : Nat → Int32), K17 v23 A26 P27 m28 t29 e30 →
    v23 = 1) ∧ W_L_law_L67  K17 n18 x15 x16 A10 P11 m12 t13 e14) ∧ ((r1 = 0 →
    k4 0 A P m t e) ∧ (¬ r1 = 0 →
    W_L_isRefused A P m t e (1) (fun r515 =>
    (r515 = 0 →
    k4 0 A P m t e) ∧ (¬ r515 = 0 →
    W_L_areSound A P m t e (0) (fun r518 =>
    (r518 = 0 →
    k4 0 A P m t e) ∧ (¬ r518 = 0 →
    k4 1 A P m t e)))))))
set_option maxHeartbeats 16000000 in
set_option maxRecDepth 100000 in
theorem law_walk {X : zX} {l : Launch} {D : va_G} {a : Nat → Nat} {g : Nat → ClassId} {ea : Nat → Nat} {mo to eo : Nat} {b L : Nat} {xs : Nat → Int32} (hst : l.stackTraces = false) (C : zC X D 18 code RL wsL_law (zT g)) (hR : zR X room_1) (hL : zL X l) (CL : zCL X ea) (SC : zSc X b L xs) (hLL : L ≤ 260) (hE : ∀ (cells slots : Nat) (ws : va_W) (lv : List (Nat × Value)), cells ≤ 933497 → slots ≤ 6301132 → zV X D 18 cells slots ws 1047 lv [.int 1]) (A : zNt) (P : zPa) (m t e : Nat → Int32) (s : zS) (hS : ST A P s) (hw : W_L_law A P m t e) : zV X D 18 (100 + 0) (1000 + 0) ((zFr g mo to eo m t e) ++ WX a g s) 23 [(0, .ref b), (1, .ref (a 0)), (2, .ref mo), (3, .ref to), (4, .ref eo)] [] := by
  refine z_aload_n C 1 dL_law_23 rfl ?_
  refine z_aload_n C 2 dL_law_24 rfl ?_
  refine z_aload C 4 dL_law_25 rfl ?_
  refine z_iconst C 0 dL_law_27 (by decide) ?_
  refine z_cui C hR hL CL (wf := fun q => (zFr g mo to eo m t e) ++ WX a g q) (u0 := s) (As := [.ref (a 0), .ref mo, .ref eo, .int 0]) (c_L_isRefused l hst D a g ea mo to eo A P m t e (0) s hS _ hw) gL_law_L_isRefused rfl ⟨by decide +kernel, by decide +kernel, (show (parseMethodDescriptor yL_isRefused.desc).map (fun d => d.parameters.length) = some 4 from by decide +kernel)⟩ ⟨Nat.le_of_ble_eq_true rfl, Nat.le_of_ble_eq_true rfl⟩ ⟨by dsimp only [room_1]; omega, by dsimp only [room_1]; omega⟩ rfl (Nat.le_of_ble_eq_true rfl) dL_law_28 (fun r1 s2 hk => ?_)
  refine z_widen (k := (100 + 781)) (n := (1000 + 4686)) (by dsimp only; omega) (by dsimp only; omega) ?_
  obtain ⟨hw, hS3⟩ := hk
  obtain ⟨k4, hk5, hw⟩ := hw
  have hj6 : ∀ (v7 : Int32) (A10 : zNt) (P11 : zPa) (m12 t13 e14 : Nat → Int32) (s8 : zS) (hS9 : ST A10 P11 s8), k4 v7 A10 P11 m12 t13 e14 → zV X D 18 (100 + 1852) (1000 + 11112) ((zFr g mo to eo m12 t13 e14) ++ WX a g s8) 62 [(0, .ref b), (1, .ref (a 0)), (2, .ref mo), (3, .ref to), (4, .ref eo)] [.int v7] := by
    intro v7 A10 P11 m12 t13 e14 s8 hS9 hw0
    have hw := hk5 v7 A10 P11 m12 t13 e14 hw0
    refine z_topi (fun x15 ex15 => ?_)
    have hw := hw x15 ex15
    refine z_istore (lv' := [(5, .int x15), (0, .ref b), (1, .ref (a 0)), (2, .ref mo), (3, .ref to), (4, .ref eo)]) C dL_law_62 (by decide) rfl ?_
    refine z_iconst C 0 dL_law_64 (by decide) ?_
    refine z_topi (fun x16 ex16 => ?_)
    have hw := hw x16 ex16
    refine z_istore (lv' := [(6, .int x16), (5, .int x15), (0, .ref b), (1, .ref (a 0)), (2, .ref mo), (3, .ref to), (4, .ref eo)]) C dL_law_65 (by decide) rfl ?_
    refine z_sub (lv' := [(0, .ref b), (1, .ref (a 0)), (2, .ref mo), (3, .ref to), (4, .ref eo), (5, .int x15), (6, .int x16)]) [2, 3, 4, 5, 6, 1, 0] rfl ?_
    obtain ⟨K17, n18, hn19, hK20, hw⟩ := hw
    have hx21 : ∀ (v23 : Int32) (A26 : zNt) (P27 : zPa) (m28 t29 e30 : Nat → Int32) (s24 : zS) (hS25 : ST A26 P27 s24), K17 v23 A26 P27 m28 t29 e30 → zV X D 18 (100 + 72966) (1000 + 437796) ((zFr g mo to eo m28 t29 e30) ++ WX a g s24) 1045 [(5, .int v23)] [] := by
      intro v23 A26 P27 m28 t29 e30 s24 hS25 hw0
      have hw := hK20 v23 A26 P27 m28 t29 e30 hw0
      refine z_iload C 0 dL_law_1045 rfl ?_
      subst hw
      exact hE _ _ _ _ (by omega) (by omega)
    have lp22 : ∀ n67 : Nat, n67 ≤ 62 → ∀ (v31 : Int32) (v32 : Int32) (A35 : zNt) (P36 : zPa) (m37 t38 e39 : Nat → Int32) (s33 : zS) (hS34 : ST A35 P36 s33), W_L_law_L67  K17 n67 v31 v32 A35 P36 m37 t38 e39 → zV X D 18 ((100 + 1852 + 1147 * (62 - n67)) + 0) ((1000 + 11112 + 6882 * (62 - n67)) + 0) ((zFr g mo to eo m37 t38 e39) ++ WX a g s33) 67 [(0, .ref b), (1, .ref (a 0)), (2, .ref mo), (3, .ref to), (4, .ref eo), (5, .int v31), (6, .int v32)] [] := by
      intro n67
      induction n67 with
      | zero => intro _ v31 v32 A35 P36 m37 t38 e39 s33 hS34 hw; exact False.elim hw
      | succ n67 ih =>
        intro hn v31 v32 A35 P36 m37 t38 e39 s33 hS34 hw
        have hw : _ := hw
        refine z_iload C 6 dL_law_67 rfl ?_
        refine z_bipush C 60 dL_law_69 (by decide) ?_
        refine z_icmp_ge C 1045 dL_law_71 (by decide) (fun hc => ?_) (fun hc => ?_)
        · have hw := hw.1 hc
          refine z_sub (lv' := [(5, .int v31)]) [5] rfl ?_
          refine z_widen (k := (100 + 72966)) (n := (1000 + 437796)) (by omega) (by omega) ?_
          exact hx21 _ _ _ _ _ _ s33 hS34 hw
        · have hw := hw.2 hc
          refine z_iload C 5 dL_law_74 rfl ?_
          refine z_if_eq C 1045 dL_law_76 (by decide) (fun hc => ?_) (fun hc => ?_)
          · have hw := hw.1 hc
            refine z_sub (lv' := [(5, .int v31)]) [5] rfl ?_
            refine z_widen (k := (100 + 72966)) (n := (1000 + 437796)) (by omega) (by omega) ?_
            exact hx21 _ _ _ _ _ _ s33 hS34 hw
          · have hw := hw.2 hc
            refine z_aload_n C 0 dL_law_79 rfl ?_
            refine z_iload C 6 dL_law_80 rfl ?_
            obtain ⟨b43, hw⟩ := hw
            refine z_cdc C hR hL SC (wf := fun q => (zFr g mo to eo m37 t38 e39) ++ WX a g q) (u0 := s33) (As := [.ref b, .int v32]) (c_L_dice l D a g mo to eo m37 t38 e39 s33 b L xs hLL v32 b43) gL_law_L_dice rfl ⟨by decide +kernel, by decide +kernel, (show (parseMethodDescriptor yL_dice.desc).map (fun d => d.parameters.length) = some 2 from by decide +kernel)⟩ ⟨Nat.le_of_ble_eq_true rfl, Nat.le_of_ble_eq_true rfl⟩ ⟨by dsimp only [room_1]; omega, by dsimp only [room_1]; omega⟩ rfl (Nat.le_of_ble_eq_true rfl) dL_law_82 (fun r40 s41 hk => ?_)
            refine z_widen (k := ((100 + 1852 + 1147 * (62 - (n67 + 1))) + 0)) (n := ((1000 + 11112 + 6882 * (62 - (n67 + 1))) + 0)) (by dsimp only; omega) (by dsimp only; omega) ?_
            obtain ⟨er40, es41⟩ := hk
            have hS42 : ST A35 P36 s41 := es41 ▸ hS34
            have hw := hw r40 er40
            refine z_topi (fun x44 ex44 => ?_)
            have hw := hw x44 ex44
            refine z_istore (lv' := [(7, .int x44), (0, .ref b), (1, .ref (a 0)), (2, .ref mo), (3, .ref to), (4, .ref eo), (5, .int v31), (6, .int v32)]) C dL_law_85 (by decide) rfl ?_
            refine z_iload C 7 dL_law_87 rfl ?_
            refine z_iconst C 4 dL_law_89 (by decide) ?_
            obtain ⟨k45, hk46, hw⟩ := hw
            have hj47 : ∀ (v48 : Int32) (A51 : zNt) (P52 : zPa) (m53 t54 e55 : Nat → Int32) (s49 : zS) (hS50 : ST A51 P52 s49), k45 v48 A51 P52 m53 t54 e55 → zV X D 18 ((100 + 1852 + 1147 * (62 - (n67 + 1))) + 0) ((1000 + 11112 + 6882 * (62 - (n67 + 1))) + 0) ((zFr g mo to eo m53 t54 e55) ++ WX a g s49) 113 [(0, .ref b), (1, .ref (a 0)), (2, .ref mo), (3, .ref to), (4, .ref eo), (5, .int v31), (6, .int v32), (7, .int x44)] [.int v48] := by
              intro v48 A51 P52 m53 t54 e55 s49 hS50 hw0
              have hw := hk46 v48 A51 P52 m53 t54 e55 hw0
              refine z_topi (fun x56 ex56 => ?_)
              have hw := hw x56 ex56
              refine z_istore (lv' := [(8, .int x56), (0, .ref b), (1, .ref (a 0)), (2, .ref mo), (3, .ref to), (4, .ref eo), (5, .int v31), (6, .int v32), (7, .int x44)]) C dL_law_113 (by decide) rfl ?_
              refine z_iload C 8 dL_law_115 rfl ?_
              refine z_bipush C 26 dL_law_117 (by decide) ?_
              obtain ⟨b57, hw⟩ := hw
              refine z_idiv C dL_law_119 b57 ?_
              refine z_topi (fun x58 ex58 => ?_)
              have hw := hw x58 ex58
              refine z_istore (lv' := [(9, .int x58), (8, .int x56), (0, .ref b), (1, .ref (a 0)), (2, .ref mo), (3, .ref to), (4, .ref eo), (5, .int v31), (6, .int v32), (7, .int x44)]) C dL_law_120 (by decide) rfl ?_
              refine z_aload_n C 4 dL_law_122 rfl ?_
              refine z_iconst C 0 dL_law_123 (by decide) ?_
              obtain ⟨b59, hw⟩ := hw
              refine z_iald C 0 0 rfl rfl b59 dL_law_124 ?_
              obtain ⟨k60, hk61, hw⟩ := hw
              have hj62 : ∀ (v63 : Int32) (A66 : zNt) (P67 : zPa) (m68 t69 e70 : Nat → Int32) (s64 : zS) (hS65 : ST A66 P67 s64), k60 v63 A66 P67 m68 t69 e70 → zV X D 18 ((100 + 1852 + 1147 * (62 - (n67 + 1))) + 0) ((1000 + 11112 + 6882 * (62 - (n67 + 1))) + 0) ((zFr g mo to eo m68 t69 e70) ++ WX a g s64) 138 [(0, .ref b), (1, .ref (a 0)), (2, .ref mo), (3, .ref to), (4, .ref eo), (5, .int v31), (6, .int v32), (7, .int x44), (8, .int x56), (9, .int x58)] [.int v63] := by
                intro v63 A66 P67 m68 t69 e70 s64 hS65 hw0
                have hw := hk61 v63 A66 P67 m68 t69 e70 hw0
                refine z_topi (fun x71 ex71 => ?_)
                have hw := hw x71 ex71
                refine z_istore (lv' := [(10, .int x71), (0, .ref b), (1, .ref (a 0)), (2, .ref mo), (3, .ref to), (4, .ref eo), (5, .int v31), (6, .int v32), (7, .int x44), (8, .int x56), (9, .int x58)]) C dL_law_138 (by decide) rfl ?_
                refine z_iload C 10 dL_law_140 rfl ?_
                refine z_bipush C 6 dL_law_142 (by decide) ?_
                obtain ⟨b72, hw⟩ := hw
                refine z_idiv C dL_law_144 b72 ?_
                refine z_topi (fun x73 ex73 => ?_)
                have hw := hw x73 ex73
                refine z_istore (lv' := [(11, .int x73), (10, .int x71), (0, .ref b), (1, .ref (a 0)), (2, .ref mo), (3, .ref to), (4, .ref eo), (5, .int v31), (6, .int v32), (7, .int x44), (8, .int x56), (9, .int x58)]) C dL_law_145 (by decide) rfl ?_
                refine z_iload C 10 dL_law_147 rfl ?_
                refine z_iconst C 2 dL_law_149 (by decide) ?_
                obtain ⟨k74, hk75, hw⟩ := hw
                have hj76 : ∀ (v77 : Int32) (A80 : zNt) (P81 : zPa) (m82 t83 e84 : Nat → Int32) (s78 : zS) (hS79 : ST A80 P81 s78), k74 v77 A80 P81 m82 t83 e84 → zV X D 18 ((100 + 1852 + 1147 * (62 - (n67 + 1))) + 76) ((1000 + 11112 + 6882 * (62 - (n67 + 1))) + 456) ((zFr g mo to eo m82 t83 e84) ++ WX a g s78) 992 [(0, .ref b), (1, .ref (a 0)), (2, .ref mo), (3, .ref to), (4, .ref eo), (5, .int v77), (6, .int v32), (7, .int x44), (9, .int x58)] [] := by
                  intro v77 A80 P81 m82 t83 e84 s78 hS79 hw0
                  have hw := hk75 v77 A80 P81 m82 t83 e84 hw0
                  refine z_iload C 5 dL_law_992 rfl ?_
                  refine z_if_eq C 1036 dL_law_994 (by decide) (fun hc => ?_) (fun hc => ?_)
                  · have hw := hw.1 hc
                    refine z_iconst C 0 dL_law_1036 (by decide) ?_
                    refine z_topi (fun x85 ex85 => ?_)
                    have hw := hw x85 ex85
                    refine z_istore (lv' := [(5, .int x85), (0, .ref b), (1, .ref (a 0)), (2, .ref mo), (3, .ref to), (4, .ref eo), (6, .int v32), (7, .int x44), (9, .int x58)]) C dL_law_1037 (by decide) rfl ?_
                    obtain ⟨x86, ex86⟩ : ∃ z : Int32, z = v32 + 1 := ⟨_, rfl⟩
                    have hw := hw x86 ex86
                    refine z_iinc (lv' := [(6, .int x86), (5, .int x85), (0, .ref b), (1, .ref (a 0)), (2, .ref mo), (3, .ref to), (4, .ref eo), (7, .int x44), (9, .int x58)]) C 6 dL_law_1039 rfl (by rw [ex86]; rfl) (by decide) rfl ?_
                    refine z_goto C 67 dL_law_1042 (by decide) ?_
                    refine z_sub (lv' := [(0, .ref b), (1, .ref (a 0)), (2, .ref mo), (3, .ref to), (4, .ref eo), (5, .int x85), (6, .int x86)]) [2, 3, 4, 5, 6, 1, 0] rfl ?_
                    refine z_widen (k := ((100 + 1852 + 1147 * (62 - n67)) + 0)) (n := ((1000 + 11112 + 6882 * (62 - n67)) + 0)) (by omega) (by omega) ?_
                    exact ih (by omega) _ _ _ _ _ _ _ s78 hS79 hw
                  · have hw := hw.2 hc
                    refine z_aload_n C 1 dL_law_997 rfl ?_
                    refine z_aload_n C 2 dL_law_998 rfl ?_
                    refine z_aload_n C 3 dL_law_999 rfl ?_
                    refine z_aload C 4 dL_law_1000 rfl ?_
                    refine z_iload C 8 dL_law_1002 rfl ?_
                    refine z_cui C hR hL CL (wf := fun q => (zFr g mo to eo m82 t83 e84) ++ WX a g q) (u0 := s78) (As := [.ref (a 0), .ref mo, .ref to, .ref eo, .int x58]) (c_L_areSound l hst D a g ea mo to eo A80 P81 m82 t83 e84 x58 s78 hS79 _ hw) gL_law_L_areSound rfl ⟨by decide +kernel, by decide +kernel, (show (parseMethodDescriptor yL_areSound.desc).map (fun d => d.parameters.length) = some 5 from by decide +kernel)⟩ ⟨Nat.le_of_ble_eq_true rfl, Nat.le_of_ble_eq_true rfl⟩ ⟨by dsimp only [room_1]; omega, by dsimp only [room_1]; omega⟩ rfl (Nat.le_of_ble_eq_true rfl) dL_law_1004 (fun r87 s88 hk => ?_)
                    refine z_widen (k := ((100 + 1852 + 1147 * (62 - (n67 + 1))) + 366)) (n := ((1000 + 11112 + 6882 * (62 - (n67 + 1))) + 2196)) (by dsimp only; omega) (by dsimp only; omega) ?_
                    obtain ⟨hw, hS89⟩ := hk
                    refine z_if_eq C 1036 dL_law_1007 (by decide) (fun hc => ?_) (fun hc => ?_)
                    · have hw := hw.1 hc
                      refine z_iconst C 0 dL_law_1036 (by decide) ?_
                      refine z_topi (fun x90 ex90 => ?_)
                      have hw := hw x90 ex90
                      refine z_istore (lv' := [(5, .int x90), (0, .ref b), (1, .ref (a 0)), (2, .ref mo), (3, .ref to), (4, .ref eo), (6, .int v32), (7, .int x44), (9, .int x58)]) C dL_law_1037 (by decide) rfl ?_
                      obtain ⟨x91, ex91⟩ : ∃ z : Int32, z = v32 + 1 := ⟨_, rfl⟩
                      have hw := hw x91 ex91
                      refine z_iinc (lv' := [(6, .int x91), (5, .int x90), (0, .ref b), (1, .ref (a 0)), (2, .ref mo), (3, .ref to), (4, .ref eo), (7, .int x44), (9, .int x58)]) C 6 dL_law_1039 rfl (by rw [ex91]; rfl) (by decide) rfl ?_
                      refine z_goto C 67 dL_law_1042 (by decide) ?_
                      refine z_sub (lv' := [(0, .ref b), (1, .ref (a 0)), (2, .ref mo), (3, .ref to), (4, .ref eo), (5, .int x90), (6, .int x91)]) [2, 3, 4, 5, 6, 1, 0] rfl ?_
                      refine z_widen (k := ((100 + 1852 + 1147 * (62 - n67)) + 0)) (n := ((1000 + 11112 + 6882 * (62 - n67)) + 0)) (by omega) (by omega) ?_
                      exact ih (by omega) _ _ _ _ _ _ _ s88 hS89 hw
                    · have hw := hw.2 hc
                      refine z_iload C 6 dL_law_1010 rfl ?_
                      refine z_bipush C 30 dL_law_1012 (by decide) ?_
                      obtain ⟨b92, hw⟩ := hw
                      refine z_irem C dL_law_1014 b92 ?_
                      refine z_if_gt C 1032 dL_law_1015 (by decide) (fun hc => ?_) (fun hc => ?_)
                      · have hw := hw.1 hc
                        refine z_iconst C 1 dL_law_1032 (by decide) ?_
                        refine z_goto C 1037 dL_law_1033 (by decide) ?_
                        refine z_topi (fun x93 ex93 => ?_)
                        have hw := hw x93 ex93
                        refine z_istore (lv' := [(5, .int x93), (0, .ref b), (1, .ref (a 0)), (2, .ref mo), (3, .ref to), (4, .ref eo), (6, .int v32), (7, .int x44), (9, .int x58)]) C dL_law_1037 (by decide) rfl ?_
                        obtain ⟨x94, ex94⟩ : ∃ z : Int32, z = v32 + 1 := ⟨_, rfl⟩
                        have hw := hw x94 ex94
                        refine z_iinc (lv' := [(6, .int x94), (5, .int x93), (0, .ref b), (1, .ref (a 0)), (2, .ref mo), (3, .ref to), (4, .ref eo), (7, .int x44), (9, .int x58)]) C 6 dL_law_1039 rfl (by rw [ex94]; rfl) (by decide) rfl ?_
                        refine z_goto C 67 dL_law_1042 (by decide) ?_
                        refine z_sub (lv' := [(0, .ref b), (1, .ref (a 0)), (2, .ref mo), (3, .ref to), (4, .ref eo), (5, .int x93), (6, .int x94)]) [2, 3, 4, 5, 6, 1, 0] rfl ?_
                        refine z_widen (k := ((100 + 1852 + 1147 * (62 - n67)) + 0)) (n := ((1000 + 11112 + 6882 * (62 - n67)) + 0)) (by omega) (by omega) ?_
                        exact ih (by omega) _ _ _ _ _ _ _ s88 hS89 hw
                      · have hw := hw.2 hc
                        refine z_aload_n C 1 dL_law_1018 rfl ?_
                        refine z_aload_n C 2 dL_law_1019 rfl ?_
                        refine z_aload C 4 dL_law_1020 rfl ?_
                        refine z_iload C 7 dL_law_1022 rfl ?_
                        refine z_iconst C 3 dL_law_1024 (by decide) ?_
                        obtain ⟨b95, hw⟩ := hw
                        refine z_idiv C dL_law_1025 b95 ?_
                        refine z_cui C hR hL CL (wf := fun q => (zFr g mo to eo m82 t83 e84) ++ WX a g q) (u0 := s88) (As := [.ref (a 0), .ref mo, .ref eo, .int (x44 / 3)]) (c_L_isRefused l hst D a g ea mo to eo A80 P81 m82 t83 e84 (x44 / 3) s88 hS89 _ hw) gL_law_L_isRefused rfl ⟨by decide +kernel, by decide +kernel, (show (parseMethodDescriptor yL_isRefused.desc).map (fun d => d.parameters.length) = some 4 from by decide +kernel)⟩ ⟨Nat.le_of_ble_eq_true rfl, Nat.le_of_ble_eq_true rfl⟩ ⟨by dsimp only [room_1]; omega, by dsimp only [room_1]; omega⟩ rfl (Nat.le_of_ble_eq_true rfl) dL_law_1026 (fun r96 s97 hk => ?_)
                        refine z_widen (k := ((100 + 1852 + 1147 * (62 - (n67 + 1))) + 1147)) (n := ((1000 + 11112 + 6882 * (62 - (n67 + 1))) + 6882)) (by dsimp only; omega) (by dsimp only; omega) ?_
                        obtain ⟨hw, hS98⟩ := hk
                        refine z_if_eq C 1036 dL_law_1029 (by decide) (fun hc => ?_) (fun hc => ?_)
                        · have hw := hw.1 hc
                          refine z_iconst C 0 dL_law_1036 (by decide) ?_
                          refine z_topi (fun x99 ex99 => ?_)
                          have hw := hw x99 ex99
                          refine z_istore (lv' := [(5, .int x99), (0, .ref b), (1, .ref (a 0)), (2, .ref mo), (3, .ref to), (4, .ref eo), (6, .int v32), (7, .int x44), (9, .int x58)]) C dL_law_1037 (by decide) rfl ?_
                          obtain ⟨x100, ex100⟩ : ∃ z : Int32, z = v32 + 1 := ⟨_, rfl⟩
                          have hw := hw x100 ex100
                          refine z_iinc (lv' := [(6, .int x100), (5, .int x99), (0, .ref b), (1, .ref (a 0)), (2, .ref mo), (3, .ref to), (4, .ref eo), (7, .int x44), (9, .int x58)]) C 6 dL_law_1039 rfl (by rw [ex100]; rfl) (by decide) rfl ?_
                          refine z_goto C 67 dL_law_1042 (by decide) ?_
                          refine z_sub (lv' := [(0, .ref b), (1, .ref (a 0)), (2, .ref mo), (3, .ref to), (4, .ref eo), (5, .int x99), (6, .int x100)]) [2, 3, 4, 5, 6, 1, 0] rfl ?_
                          refine z_widen (k := ((100 + 1852 + 1147 * (62 - n67)) + 0)) (n := ((1000 + 11112 + 6882 * (62 - n67)) + 0)) (by omega) (by omega) ?_
                          exact ih (by omega) _ _ _ _ _ _ _ s97 hS98 hw
                        · have hw := hw.2 hc
                          refine z_iconst C 1 dL_law_1032 (by decide) ?_
                          refine z_goto C 1037 dL_law_1033 (by decide) ?_
                          refine z_topi (fun x101 ex101 => ?_)
                          have hw := hw x101 ex101
                          refine z_istore (lv' := [(5, .int x101), (0, .ref b), (1, .ref (a 0)), (2, .ref mo), (3, .ref to), (4, .ref eo), (6, .int v32), (7, .int x44), (9, .int x58)]) C dL_law_1037 (by decide) rfl ?_
                          obtain ⟨x102, ex102⟩ : ∃ z : Int32, z = v32 + 1 := ⟨_, rfl⟩
                          have hw := hw x102 ex102
                          refine z_iinc (lv' := [(6, .int x102), (5, .int x101), (0, .ref b), (1, .ref (a 0)), (2, .ref mo), (3, .ref to), (4, .ref eo), (7, .int x44), (9, .int x58)]) C 6 dL_law_1039 rfl (by rw [ex102]; rfl) (by decide) rfl ?_
                          refine z_goto C 67 dL_law_1042 (by decide) ?_
                          refine z_sub (lv' := [(0, .ref b), (1, .ref (a 0)), (2, .ref mo), (3, .ref to), (4, .ref eo), (5, .int x101), (6, .int x102)]) [2, 3, 4, 5, 6, 1, 0] rfl ?_
                          refine z_widen (k := ((100 + 1852 + 1147 * (62 - n67)) + 0)) (n := ((1000 + 11112 + 6882 * (62 - n67)) + 0)) (by omega) (by omega) ?_
                          exact ih (by omega) _ _ _ _ _ _ _ s97 hS98 hw
                refine z_icmp_ge C 216 dL_law_150 (by decide) (fun hc => ?_) (fun hc => ?_)
                · have hw := hw.1 hc
                  refine z_iload C 10 dL_law_216 rfl ?_
                  refine z_iconst C 2 dL_law_218 (by decide) ?_
                  obtain ⟨k103, hk104, hw⟩ := hw
                  have hj105 : ∀ (A108 : zNt) (P109 : zPa) (m110 t111 e112 : Nat → Int32) (s106 : zS) (hS107 : ST A108 P109 s106), k103 A108 P109 m110 t111 e112 → zV X D 18 ((100 + 1852 + 1147 * (62 - (n67 + 1))) + 0) ((1000 + 11112 + 6882 * (62 - (n67 + 1))) + 0) ((zFr g mo to eo m110 t111 e112) ++ WX a g s106) 307 [(0, .ref b), (1, .ref (a 0)), (2, .ref mo), (3, .ref to), (4, .ref eo), (5, .int v31), (6, .int v32), (7, .int x44), (8, .int x56), (9, .int x58), (10, .int x71), (11, .int x73)] [] := by
                    intro A108 P109 m110 t111 e112 s106 hS107 hw0
                    have hw := hk104 A108 P109 m110 t111 e112 hw0
                    refine z_iload C 8 dL_law_307 rfl ?_
                    refine z_bipush C 12 dL_law_309 (by decide) ?_
                    obtain ⟨k113, hk114, hw⟩ := hw
                    have hj115 : ∀ (A118 : zNt) (P119 : zPa) (m120 t121 e122 : Nat → Int32) (s116 : zS) (hS117 : ST A118 P119 s116), k113 A118 P119 m120 t121 e122 → zV X D 18 ((100 + 1852 + 1147 * (62 - (n67 + 1))) + 0) ((1000 + 11112 + 6882 * (62 - (n67 + 1))) + 0) ((zFr g mo to eo m120 t121 e122) ++ WX a g s116) 525 [(0, .ref b), (1, .ref (a 0)), (2, .ref mo), (3, .ref to), (4, .ref eo), (5, .int v31), (6, .int v32), (7, .int x44), (8, .int x56), (9, .int x58), (10, .int x71), (11, .int x73)] [] := by
                      intro A118 P119 m120 t121 e122 s116 hS117 hw0
                      have hw := hk114 A118 P119 m120 t121 e122 hw0
                      refine z_iload C 8 dL_law_525 rfl ?_
                      refine z_bipush C 16 dL_law_527 (by decide) ?_
                      obtain ⟨k123, hk124, hw⟩ := hw
                      have hj125 : ∀ (A128 : zNt) (P129 : zPa) (m130 t131 e132 : Nat → Int32) (s126 : zS) (hS127 : ST A128 P129 s126), k123 A128 P129 m130 t131 e132 → zV X D 18 ((100 + 1852 + 1147 * (62 - (n67 + 1))) + 0) ((1000 + 11112 + 6882 * (62 - (n67 + 1))) + 0) ((zFr g mo to eo m130 t131 e132) ++ WX a g s126) 634 [(0, .ref b), (1, .ref (a 0)), (2, .ref mo), (3, .ref to), (4, .ref eo), (5, .int v31), (6, .int v32), (7, .int x44), (8, .int x56), (9, .int x58), (10, .int x71), (11, .int x73)] [] := by
                        intro A128 P129 m130 t131 e132 s126 hS127 hw0
                        have hw := hk124 A128 P129 m130 t131 e132 hw0
                        refine z_iload C 8 dL_law_634 rfl ?_
                        refine z_bipush C 16 dL_law_636 (by decide) ?_
                        refine z_icmp_ne C 816 dL_law_638 (by decide) (fun hc => ?_) (fun hc => ?_)
                        · have hw := hw.1 hc
                          refine z_iload C 8 dL_law_816 rfl ?_
                          refine z_bipush C 17 dL_law_818 (by decide) ?_
                          refine z_icmp_ne C 865 dL_law_820 (by decide) (fun hc => ?_) (fun hc => ?_)
                          · have hw := hw.1 hc
                            refine z_iload C 8 dL_law_865 rfl ?_
                            refine z_bipush C 17 dL_law_867 (by decide) ?_
                            refine z_icmp_le C 992 dL_law_869 (by decide) (fun hc => ?_) (fun hc => ?_)
                            · have hw := hw.1 hc
                              refine z_sub (lv' := [(0, .ref b), (1, .ref (a 0)), (2, .ref mo), (3, .ref to), (4, .ref eo), (5, .int v31), (6, .int v32), (7, .int x44), (9, .int x58)]) [0, 1, 2, 3, 4, 5, 6, 7, 9] rfl ?_
                              refine z_widen (k := ((100 + 1852 + 1147 * (62 - (n67 + 1))) + 76)) (n := ((1000 + 11112 + 6882 * (62 - (n67 + 1))) + 456)) (by omega) (by omega) ?_
                              exact hj76 _ _ _ _ _ _ s126 hS127 hw
                            · have hw := hw.2 hc
                              refine z_aload_n C 2 dL_law_872 rfl ?_
                              refine z_iconst C 0 dL_law_873 (by decide) ?_
                              obtain ⟨b133, hw⟩ := hw
                              refine z_iald C 0 0 rfl rfl b133 dL_law_874 ?_
                              refine z_if_le C 992 dL_law_875 (by decide) (fun hc => ?_) (fun hc => ?_)
                              · have hw := hw.1 hc
                                refine z_sub (lv' := [(0, .ref b), (1, .ref (a 0)), (2, .ref mo), (3, .ref to), (4, .ref eo), (5, .int v31), (6, .int v32), (7, .int x44), (9, .int x58)]) [0, 1, 2, 3, 4, 5, 6, 7, 9] rfl ?_
                                refine z_widen (k := ((100 + 1852 + 1147 * (62 - (n67 + 1))) + 76)) (n := ((1000 + 11112 + 6882 * (62 - (n67 + 1))) + 456)) (by omega) (by omega) ?_
                                exact hj76 _ _ _ _ _ _ s126 hS127 hw
                              · have hw := hw.2 hc
                                refine z_aload_n C 1 dL_law_878 rfl ?_
                                refine z_fi C hR hL (wr := (zFr g mo to eo m130 t131 e132)) (wf := WX a g) (u0 := s126) (As := []) (c_X4_sum l D a g s126 _ (X_sum hS127)) gL_law_X4_sum rfl ⟨by decide +kernel, by decide +kernel, (show (parseMethodDescriptor yX4_sum.desc).map (fun d => d.parameters.length) = some 0 from by decide +kernel)⟩ ⟨Nat.le_of_ble_eq_true rfl, Nat.le_of_ble_eq_true rfl⟩ ⟨by dsimp only [room_1]; omega, by dsimp only [room_1]; omega⟩ 0 4 rfl rfl rfl rfl (Nat.le_of_ble_eq_true rfl) dL_law_879 (fun r134 s135 hk => ?_)
                                refine z_widen (k := ((100 + 1852 + 1147 * (62 - (n67 + 1))) + 0)) (n := ((1000 + 11112 + 6882 * (62 - (n67 + 1))) + 0)) (by dsimp only; omega) (by dsimp only; omega) ?_
                                obtain ⟨es135, er134⟩ := hk
                                have hS136 : ST A128 P129 s135 := es135 ▸ hS127
                                have hw := hw r134 er134
                                refine z_topi (fun x137 ex137 => ?_)
                                have hw := hw x137 ex137
                                refine z_istore (lv' := [(12, .int x137), (0, .ref b), (1, .ref (a 0)), (2, .ref mo), (3, .ref to), (4, .ref eo), (5, .int v31), (6, .int v32), (7, .int x44), (8, .int x56), (9, .int x58), (10, .int x71), (11, .int x73)]) C dL_law_882 (by decide) rfl ?_
                                refine z_aload_n C 2 dL_law_884 rfl ?_
                                refine z_iconst C 5 dL_law_885 (by decide) ?_
                                refine z_iload C 11 dL_law_886 rfl ?_
                                refine z_iconst C 0 dL_law_888 (by decide) ?_
                                refine z_iconst C 0 dL_law_889 (by decide) ?_
                                refine z_iconst C 0 dL_law_890 (by decide) ?_
                                refine z_fwl C hR hL CL (wr := (zFr g mo to eo m130 t131 e132)) (wf := WX a g) (u0 := s135) (As := [.ref (a 0), .int 5, .int x71, .int 0, .int 0, .int 0]) (c_L_act l hst D a g ea A128 P129 s135 hS136 (5) x71 (0) (0) (0)) gL_law_L_act rfl ⟨by decide +kernel, by decide +kernel, (show (parseMethodDescriptor yL_act.desc).map (fun d => d.parameters.length) = some 6 from by decide +kernel)⟩ ⟨Nat.le_of_ble_eq_true rfl, Nat.le_of_ble_eq_true rfl⟩ ⟨by dsimp only [room_1]; omega, by dsimp only [room_1]; omega⟩ rfl (Nat.le_of_ble_eq_true rfl) dL_law_891 (fun r138 s139 hk => ?_)
                                refine z_widen (k := ((100 + 1852 + 1147 * (62 - (n67 + 1))) + 3)) (n := ((1000 + 11112 + 6882 * (62 - (n67 + 1))) + 18)) (by dsimp only; omega) (by dsimp only; omega) ?_
                                obtain ⟨A141, P142, er138, hS140⟩ := hk
                                have hw := hw r138 A141 P142 er138
                                refine z_topl (fun x143 ex143 => ?_)
                                have hw := hw x143 ex143
                                refine z_lstore (lv' := [(13, .long x143), (12, .int x137), (0, .ref b), (1, .ref (a 0)), (2, .ref mo), (3, .ref to), (4, .ref eo), (5, .int v31), (6, .int v32), (7, .int x44), (8, .int x56), (9, .int x58), (10, .int x71), (11, .int x73)]) C dL_law_894 (by decide) rfl ?_
                                refine z_lload C 0 dL_law_896 rfl ?_
                                refine z_ldc2 C (-161300000000000000) (List.mem_of_getElem? (i := 4) rfl) dL_law_898 ?_
                                obtain ⟨k144, hk145, hw⟩ := hw
                                have hj146 : ∀ (v147 : Int32) (A150 : zNt) (P151 : zPa) (m152 t153 e154 : Nat → Int32) (s148 : zS) (hS149 : ST A150 P151 s148), k144 v147 A150 P151 m152 t153 e154 → zV X D 18 ((100 + 1852 + 1147 * (62 - (n67 + 1))) + 3) ((1000 + 11112 + 6882 * (62 - (n67 + 1))) + 18) ((zFr g mo to eo m152 t153 e154) ++ WX a g s148) 965 [(0, .ref b), (1, .ref (a 0)), (2, .ref mo), (3, .ref to), (4, .ref eo), (6, .int v32), (7, .int x44), (9, .int x58), (13, .long x143)] [.int v147] := by
                                  intro v147 A150 P151 m152 t153 e154 s148 hS149 hw0
                                  have hw := hk145 v147 A150 P151 m152 t153 e154 hw0
                                  refine z_topi (fun x155 ex155 => ?_)
                                  have hw := hw x155 ex155
                                  refine z_istore (lv' := [(5, .int x155), (0, .ref b), (1, .ref (a 0)), (2, .ref mo), (3, .ref to), (4, .ref eo), (6, .int v32), (7, .int x44), (9, .int x58), (13, .long x143)]) C dL_law_965 (by decide) rfl ?_
                                  refine z_aload_n C 3 dL_law_967 rfl ?_
                                  refine z_iconst C 2 dL_law_968 (by decide) ?_
                                  refine z_dup2 C dL_law_969 rfl rfl ?_
                                  obtain ⟨b156, hw⟩ := hw
                                  refine z_iald C 0 0 rfl rfl b156 dL_law_970 ?_
                                  refine z_lload C 9 dL_law_971 rfl ?_
                                  refine z_lconst C 0 dL_law_973 (by decide) ?_
                                  obtain ⟨k157, hk158, hw⟩ := hw
                                  have hj159 : ∀ (v160 : Int32) (A163 : zNt) (P164 : zPa) (m165 t166 e167 : Nat → Int32) (s161 : zS) (hS162 : ST A163 P164 s161), k157 v160 A163 P164 m165 t166 e167 → zV X D 18 ((100 + 1852 + 1147 * (62 - (n67 + 1))) + 3) ((1000 + 11112 + 6882 * (62 - (n67 + 1))) + 18) ((zFr g mo to eo m165 t166 e167) ++ WX a g s161) 983 [(0, .ref b), (1, .ref (a 0)), (2, .ref mo), (3, .ref to), (4, .ref eo), (5, .int x155), (6, .int v32), (7, .int x44), (9, .int x58)] [.int v160, .int (m152 (ix 2)), .int 2, .ref mo] := by
                                    intro v160 A163 P164 m165 t166 e167 s161 hS162 hw0
                                    have hw := hk158 v160 A163 P164 m165 t166 e167 hw0
                                    refine z_iadd C dL_law_983 ?_
                                    obtain ⟨b168, hw⟩ := hw
                                    obtain ⟨m169, em169⟩ : ∃ z : Nat → Int32, z = upd m165 (ix 2) ((m152 (ix 2)) + v160) := ⟨_, rfl⟩
                                    have hw := hw m169 em169
                                    refine z_iast (ws' := ((zFr g mo to eo m169 t166 e167) ++ WX a g s161)) C 0 0 rfl rfl b168 dL_law_984 (by rw [em169]; rfl) ?_
                                    refine z_aload_n C 2 dL_law_985 rfl ?_
                                    refine z_iconst C 3 dL_law_986 (by decide) ?_
                                    refine z_aload_n C 1 dL_law_987 rfl ?_
                                    refine z_fi C hR hL (wr := (zFr g mo to eo m169 t166 e167)) (wf := WX a g) (u0 := s161) (As := []) (c_X4_sum l D a g s161 _ (X_sum hS162)) gL_law_X4_sum rfl ⟨by decide +kernel, by decide +kernel, (show (parseMethodDescriptor yX4_sum.desc).map (fun d => d.parameters.length) = some 0 from by decide +kernel)⟩ ⟨Nat.le_of_ble_eq_true rfl, Nat.le_of_ble_eq_true rfl⟩ ⟨by dsimp only [room_1]; omega, by dsimp only [room_1]; omega⟩ 0 4 rfl rfl rfl rfl (Nat.le_of_ble_eq_true rfl) dL_law_988 (fun r170 s171 hk => ?_)
                                    refine z_widen (k := ((100 + 1852 + 1147 * (62 - (n67 + 1))) + 3)) (n := ((1000 + 11112 + 6882 * (62 - (n67 + 1))) + 18)) (by dsimp only; omega) (by dsimp only; omega) ?_
                                    obtain ⟨es171, er170⟩ := hk
                                    have hS172 : ST A163 P164 s171 := es171 ▸ hS162
                                    have hw := hw r170 er170
                                    obtain ⟨b173, hw⟩ := hw
                                    obtain ⟨m174, em174⟩ : ∃ z : Nat → Int32, z = upd m169 (ix 3) r170 := ⟨_, rfl⟩
                                    have hw := hw m174 em174
                                    refine z_iast (ws' := ((zFr g mo to eo m174 t166 e167) ++ WX a g s171)) C 0 0 rfl rfl b173 dL_law_991 (by rw [em174]; rfl) ?_
                                    refine z_widen (k := ((100 + 1852 + 1147 * (62 - (n67 + 1))) + 76)) (n := ((1000 + 11112 + 6882 * (62 - (n67 + 1))) + 456)) (by omega) (by omega) ?_
                                    exact hj76 _ _ _ _ _ _ s171 hS172 hw
                                  refine z_lcmp_ge C 982 dL_law_974 dL_law_975 (by decide) (fun hc => ?_) (fun hc => ?_)
                                  · have hw := hw.1 hc
                                    refine z_iconst C 1 dL_law_982 (by decide) ?_
                                    refine z_sub (lv' := [(0, .ref b), (1, .ref (a 0)), (2, .ref mo), (3, .ref to), (4, .ref eo), (5, .int x155), (6, .int v32), (7, .int x44), (9, .int x58)]) [1, 2, 3, 4, 5, 0, 6, 7, 8] rfl ?_
                                    exact hj159 _ _ _ _ _ _ s148 hS149 hw
                                  · have hw := hw.2 hc
                                    refine z_iconst C 0 dL_law_978 (by decide) ?_
                                    refine z_goto C 983 dL_law_979 (by decide) ?_
                                    refine z_sub (lv' := [(0, .ref b), (1, .ref (a 0)), (2, .ref mo), (3, .ref to), (4, .ref eo), (5, .int x155), (6, .int v32), (7, .int x44), (9, .int x58)]) [1, 2, 3, 4, 5, 0, 6, 7, 8] rfl ?_
                                    exact hj159 _ _ _ _ _ _ s148 hS149 hw
                                refine z_lcmp_ne C 928 dL_law_901 dL_law_902 (by decide) (fun hc => ?_) (fun hc => ?_)
                                · have hw := hw.1 hc
                                  refine z_lload C 0 dL_law_928 rfl ?_
                                  refine z_aload_n C 4 dL_law_930 rfl ?_
                                  refine z_iconst C 2 dL_law_931 (by decide) ?_
                                  obtain ⟨b175, hw⟩ := hw
                                  refine z_iald C 0 0 rfl rfl b175 dL_law_932 ?_
                                  refine z_iconst C 1 dL_law_933 (by decide) ?_
                                  refine z_iadd C dL_law_934 ?_
                                  refine z_i2l C dL_law_935 ?_
                                  refine z_lcmp_ne C 964 dL_law_936 dL_law_937 (by decide) (fun hc => ?_) (fun hc => ?_)
                                  · have hw := hw.1 hc
                                    refine z_iconst C 0 dL_law_964 (by decide) ?_
                                    refine z_sub (lv' := [(0, .ref b), (1, .ref (a 0)), (2, .ref mo), (3, .ref to), (4, .ref eo), (6, .int v32), (7, .int x44), (9, .int x58), (13, .long x143)]) [2, 3, 4, 5, 6, 8, 9, 11, 0] rfl ?_
                                    exact hj146 _ _ _ _ _ _ s139 hS140 hw
                                  · have hw := hw.2 hc
                                    refine z_aload_n C 4 dL_law_940 rfl ?_
                                    refine z_iconst C 2 dL_law_941 (by decide) ?_
                                    obtain ⟨b176, hw⟩ := hw
                                    refine z_iald C 0 0 rfl rfl b176 dL_law_942 ?_
                                    refine z_if_gt C 960 dL_law_943 (by decide) (fun hc => ?_) (fun hc => ?_)
                                    · have hw := hw.1 hc
                                      refine z_iconst C 1 dL_law_960 (by decide) ?_
                                      refine z_goto C 965 dL_law_961 (by decide) ?_
                                      refine z_sub (lv' := [(0, .ref b), (1, .ref (a 0)), (2, .ref mo), (3, .ref to), (4, .ref eo), (6, .int v32), (7, .int x44), (9, .int x58), (13, .long x143)]) [2, 3, 4, 5, 6, 8, 9, 11, 0] rfl ?_
                                      exact hj146 _ _ _ _ _ _ s139 hS140 hw
                                    · have hw := hw.2 hc
                                      refine z_aload_n C 3 dL_law_946 rfl ?_
                                      refine z_fi C hR hL (wr := (zFr g mo to eo m130 t131 e132)) (wf := WX a g) (u0 := s139) (As := []) (c_X4_sum l D a g s139 _ (X_sum hS140)) gL_law_X4_sum rfl ⟨by decide +kernel, by decide +kernel, (show (parseMethodDescriptor yX4_sum.desc).map (fun d => d.parameters.length) = some 0 from by decide +kernel)⟩ ⟨Nat.le_of_ble_eq_true rfl, Nat.le_of_ble_eq_true rfl⟩ ⟨by dsimp only [room_1]; omega, by dsimp only [room_1]; omega⟩ 0 4 rfl rfl rfl rfl (Nat.le_of_ble_eq_true rfl) dL_law_947 (fun r177 s178 hk => ?_)
                                      refine z_widen (k := ((100 + 1852 + 1147 * (62 - (n67 + 1))) + 3)) (n := ((1000 + 11112 + 6882 * (62 - (n67 + 1))) + 18)) (by dsimp only; omega) (by dsimp only; omega) ?_
                                      obtain ⟨es178, er177⟩ := hk
                                      have hS179 : ST A141 P142 s178 := es178 ▸ hS140
                                      have hw := hw r177 er177
                                      refine z_if_ne C 964 dL_law_950 (by decide) (fun hc => ?_) (fun hc => ?_)
                                      · have hw := hw.1 hc
                                        refine z_iconst C 0 dL_law_964 (by decide) ?_
                                        refine z_sub (lv' := [(0, .ref b), (1, .ref (a 0)), (2, .ref mo), (3, .ref to), (4, .ref eo), (6, .int v32), (7, .int x44), (9, .int x58), (13, .long x143)]) [2, 3, 4, 5, 6, 8, 9, 11, 0] rfl ?_
                                        exact hj146 _ _ _ _ _ _ s178 hS179 hw
                                      · have hw := hw.2 hc
                                        refine z_aload_n C 3 dL_law_953 rfl ?_
                                        refine z_fi C hR hL (wr := (zFr g mo to eo m130 t131 e132)) (wf := WX a g) (u0 := s178) (As := []) (c_X4_isClosed l D a g s178 _ (X_closed hS179)) gL_law_X4_isClosed rfl ⟨by decide +kernel, by decide +kernel, (show (parseMethodDescriptor yX4_isClosed.desc).map (fun d => d.parameters.length) = some 0 from by decide +kernel)⟩ ⟨Nat.le_of_ble_eq_true rfl, Nat.le_of_ble_eq_true rfl⟩ ⟨by dsimp only [room_1]; omega, by dsimp only [room_1]; omega⟩ 0 4 rfl rfl rfl rfl (Nat.le_of_ble_eq_true rfl) dL_law_954 (fun r180 s181 hk => ?_)
                                        refine z_widen (k := ((100 + 1852 + 1147 * (62 - (n67 + 1))) + 3)) (n := ((1000 + 11112 + 6882 * (62 - (n67 + 1))) + 18)) (by dsimp only; omega) (by dsimp only; omega) ?_
                                        obtain ⟨es181, er180⟩ := hk
                                        have hS182 : ST A141 P142 s181 := es181 ▸ hS179
                                        have hw := hw r180 er180
                                        refine z_if_eq C 964 dL_law_957 (by decide) (fun hc => ?_) (fun hc => ?_)
                                        · have hw := hw.1 hc
                                          refine z_iconst C 0 dL_law_964 (by decide) ?_
                                          refine z_sub (lv' := [(0, .ref b), (1, .ref (a 0)), (2, .ref mo), (3, .ref to), (4, .ref eo), (6, .int v32), (7, .int x44), (9, .int x58), (13, .long x143)]) [2, 3, 4, 5, 6, 8, 9, 11, 0] rfl ?_
                                          exact hj146 _ _ _ _ _ _ s181 hS182 hw
                                        · have hw := hw.2 hc
                                          refine z_iconst C 1 dL_law_960 (by decide) ?_
                                          refine z_goto C 965 dL_law_961 (by decide) ?_
                                          refine z_sub (lv' := [(0, .ref b), (1, .ref (a 0)), (2, .ref mo), (3, .ref to), (4, .ref eo), (6, .int v32), (7, .int x44), (9, .int x58), (13, .long x143)]) [2, 3, 4, 5, 6, 8, 9, 11, 0] rfl ?_
                                          exact hj146 _ _ _ _ _ _ s181 hS182 hw
                                · have hw := hw.2 hc
                                  refine z_aload_n C 4 dL_law_905 rfl ?_
                                  refine z_iconst C 2 dL_law_906 (by decide) ?_
                                  obtain ⟨b183, hw⟩ := hw
                                  refine z_iald C 0 0 rfl rfl b183 dL_law_907 ?_
                                  refine z_if_le C 924 dL_law_908 (by decide) (fun hc => ?_) (fun hc => ?_)
                                  · have hw := hw.1 hc
                                    refine z_iconst C 0 dL_law_924 (by decide) ?_
                                    refine z_goto C 965 dL_law_925 (by decide) ?_
                                    refine z_sub (lv' := [(0, .ref b), (1, .ref (a 0)), (2, .ref mo), (3, .ref to), (4, .ref eo), (6, .int v32), (7, .int x44), (9, .int x58), (13, .long x143)]) [2, 3, 4, 5, 6, 8, 9, 11, 0] rfl ?_
                                    exact hj146 _ _ _ _ _ _ s139 hS140 hw
                                  · have hw := hw.2 hc
                                    refine z_aload_n C 3 dL_law_911 rfl ?_
                                    refine z_fi C hR hL (wr := (zFr g mo to eo m130 t131 e132)) (wf := WX a g) (u0 := s139) (As := []) (c_X4_sum l D a g s139 _ (X_sum hS140)) gL_law_X4_sum rfl ⟨by decide +kernel, by decide +kernel, (show (parseMethodDescriptor yX4_sum.desc).map (fun d => d.parameters.length) = some 0 from by decide +kernel)⟩ ⟨Nat.le_of_ble_eq_true rfl, Nat.le_of_ble_eq_true rfl⟩ ⟨by dsimp only [room_1]; omega, by dsimp only [room_1]; omega⟩ 0 4 rfl rfl rfl rfl (Nat.le_of_ble_eq_true rfl) dL_law_912 (fun r184 s185 hk => ?_)
                                    refine z_widen (k := ((100 + 1852 + 1147 * (62 - (n67 + 1))) + 3)) (n := ((1000 + 11112 + 6882 * (62 - (n67 + 1))) + 18)) (by dsimp only; omega) (by dsimp only; omega) ?_
                                    obtain ⟨es185, er184⟩ := hk
                                    have hS186 : ST A141 P142 s185 := es185 ▸ hS140
                                    have hw := hw r184 er184
                                    refine z_iload C 1 dL_law_915 rfl ?_
                                    refine z_icmp_ne C 924 dL_law_917 (by decide) (fun hc => ?_) (fun hc => ?_)
                                    · have hw := hw.1 hc
                                      refine z_iconst C 0 dL_law_924 (by decide) ?_
                                      refine z_goto C 965 dL_law_925 (by decide) ?_
                                      refine z_sub (lv' := [(0, .ref b), (1, .ref (a 0)), (2, .ref mo), (3, .ref to), (4, .ref eo), (6, .int v32), (7, .int x44), (9, .int x58), (13, .long x143)]) [2, 3, 4, 5, 6, 8, 9, 11, 0] rfl ?_
                                      exact hj146 _ _ _ _ _ _ s185 hS186 hw
                                    · have hw := hw.2 hc
                                      refine z_iconst C 1 dL_law_920 (by decide) ?_
                                      refine z_goto C 965 dL_law_921 (by decide) ?_
                                      refine z_sub (lv' := [(0, .ref b), (1, .ref (a 0)), (2, .ref mo), (3, .ref to), (4, .ref eo), (6, .int v32), (7, .int x44), (9, .int x58), (13, .long x143)]) [2, 3, 4, 5, 6, 8, 9, 11, 0] rfl ?_
                                      exact hj146 _ _ _ _ _ _ s185 hS186 hw
                          · have hw := hw.2 hc
                            refine z_aload_n C 1 dL_law_823 rfl ?_
                            refine z_fi C hR hL (wr := (zFr g mo to eo m130 t131 e132)) (wf := WX a g) (u0 := s126) (As := []) (c_X4_end l D a g s126 _ (X_end hS127)) gL_law_X4_end rfl ⟨by decide +kernel, by decide +kernel, (show (parseMethodDescriptor yX4_end.desc).map (fun d => d.parameters.length) = some 0 from by decide +kernel)⟩ ⟨Nat.le_of_ble_eq_true rfl, Nat.le_of_ble_eq_true rfl⟩ ⟨by dsimp only [room_1]; omega, by dsimp only [room_1]; omega⟩ 0 4 rfl rfl rfl rfl (Nat.le_of_ble_eq_true rfl) dL_law_824 (fun r187 s188 hk => ?_)
                            refine z_widen (k := ((100 + 1852 + 1147 * (62 - (n67 + 1))) + 0)) (n := ((1000 + 11112 + 6882 * (62 - (n67 + 1))) + 0)) (by dsimp only; omega) (by dsimp only; omega) ?_
                            obtain ⟨er187, hS189⟩ := hk
                            obtain ⟨P190, eP190⟩ : ∃ z : zPa, z = (0, 0, 0, 0) := ⟨_, rfl⟩
                            rw [← eP190] at hS189
                            have hw := hw r187 er187 P190 eP190
                            refine z_aload_n C 2 dL_law_827 rfl ?_
                            refine z_iconst C 2 dL_law_828 (by decide) ?_
                            obtain ⟨b191, hw⟩ := hw
                            refine z_iald C 0 0 rfl rfl b191 dL_law_829 ?_
                            obtain ⟨k192, hk193, hw⟩ := hw
                            have hj194 : ∀ (v195 : Int32) (A198 : zNt) (P199 : zPa) (m200 t201 e202 : Nat → Int32) (s196 : zS) (hS197 : ST A198 P199 s196), k192 v195 A198 P199 m200 t201 e202 → zV X D 18 ((100 + 1852 + 1147 * (62 - (n67 + 1))) + 0) ((1000 + 11112 + 6882 * (62 - (n67 + 1))) + 0) ((zFr g mo to eo m200 t201 e202) ++ WX a g s196) 852 [(0, .ref b), (1, .ref (a 0)), (2, .ref mo), (3, .ref to), (4, .ref eo), (6, .int v32), (7, .int x44), (9, .int x58)] [.int v195] := by
                              intro v195 A198 P199 m200 t201 e202 s196 hS197 hw0
                              have hw := hk193 v195 A198 P199 m200 t201 e202 hw0
                              refine z_topi (fun x203 ex203 => ?_)
                              have hw := hw x203 ex203
                              refine z_istore (lv' := [(5, .int x203), (0, .ref b), (1, .ref (a 0)), (2, .ref mo), (3, .ref to), (4, .ref eo), (6, .int v32), (7, .int x44), (9, .int x58)]) C dL_law_852 (by decide) rfl ?_
                              refine z_aload_n C 3 dL_law_854 rfl ?_
                              refine z_iconst C 2 dL_law_855 (by decide) ?_
                              refine z_iconst C 0 dL_law_856 (by decide) ?_
                              obtain ⟨b204, hw⟩ := hw
                              obtain ⟨m205, em205⟩ : ∃ z : Nat → Int32, z = upd m200 (ix 2) 0 := ⟨_, rfl⟩
                              have hw := hw m205 em205
                              refine z_iast (ws' := ((zFr g mo to eo m205 t201 e202) ++ WX a g s196)) C 0 0 rfl rfl b204 dL_law_857 (by rw [em205]; rfl) ?_
                              refine z_aload_n C 3 dL_law_858 rfl ?_
                              refine z_iconst C 3 dL_law_859 (by decide) ?_
                              refine z_iconst C 0 dL_law_860 (by decide) ?_
                              obtain ⟨b206, hw⟩ := hw
                              obtain ⟨m207, em207⟩ : ∃ z : Nat → Int32, z = upd m205 (ix 3) 0 := ⟨_, rfl⟩
                              have hw := hw m207 em207
                              refine z_iast (ws' := ((zFr g mo to eo m207 t201 e202) ++ WX a g s196)) C 0 0 rfl rfl b206 dL_law_861 (by rw [em207]; rfl) ?_
                              refine z_goto C 992 dL_law_862 (by decide) ?_
                              refine z_sub (lv' := [(0, .ref b), (1, .ref (a 0)), (2, .ref mo), (3, .ref to), (4, .ref eo), (5, .int x203), (6, .int v32), (7, .int x44), (9, .int x58)]) [1, 2, 3, 4, 5, 0, 6, 7, 8] rfl ?_
                              refine z_widen (k := ((100 + 1852 + 1147 * (62 - (n67 + 1))) + 76)) (n := ((1000 + 11112 + 6882 * (62 - (n67 + 1))) + 456)) (by omega) (by omega) ?_
                              exact hj76 _ _ _ _ _ _ s196 hS197 hw
                            refine z_icmp_ne C 851 dL_law_830 (by decide) (fun hc => ?_) (fun hc => ?_)
                            · have hw := hw.1 hc
                              refine z_iconst C 0 dL_law_851 (by decide) ?_
                              refine z_sub (lv' := [(0, .ref b), (1, .ref (a 0)), (2, .ref mo), (3, .ref to), (4, .ref eo), (6, .int v32), (7, .int x44), (9, .int x58)]) [0, 1, 2, 3, 4, 6, 7, 9] rfl ?_
                              exact hj194 _ _ _ _ _ _ s188 hS189 hw
                            · have hw := hw.2 hc
                              refine z_aload_n C 1 dL_law_833 rfl ?_
                              refine z_fi C hR hL (wr := (zFr g mo to eo m130 t131 e132)) (wf := WX a g) (u0 := s188) (As := []) (c_X4_end l D a g s188 _ (X_end hS189)) gL_law_X4_end rfl ⟨by decide +kernel, by decide +kernel, (show (parseMethodDescriptor yX4_end.desc).map (fun d => d.parameters.length) = some 0 from by decide +kernel)⟩ ⟨Nat.le_of_ble_eq_true rfl, Nat.le_of_ble_eq_true rfl⟩ ⟨by dsimp only [room_1]; omega, by dsimp only [room_1]; omega⟩ 0 4 rfl rfl rfl rfl (Nat.le_of_ble_eq_true rfl) dL_law_834 (fun r208 s209 hk => ?_)
                              refine z_widen (k := ((100 + 1852 + 1147 * (62 - (n67 + 1))) + 0)) (n := ((1000 + 11112 + 6882 * (62 - (n67 + 1))) + 0)) (by dsimp only; omega) (by dsimp only; omega) ?_
                              obtain ⟨er208, hS210⟩ := hk
                              obtain ⟨P211, eP211⟩ : ∃ z : zPa, z = (0, 0, 0, 0) := ⟨_, rfl⟩
                              rw [← eP211] at hS210
                              have hw := hw r208 er208 P211 eP211
                              refine z_if_ne C 851 dL_law_837 (by decide) (fun hc => ?_) (fun hc => ?_)
                              · have hw := hw.1 hc
                                refine z_iconst C 0 dL_law_851 (by decide) ?_
                                refine z_sub (lv' := [(0, .ref b), (1, .ref (a 0)), (2, .ref mo), (3, .ref to), (4, .ref eo), (6, .int v32), (7, .int x44), (9, .int x58)]) [0, 1, 2, 3, 4, 6, 7, 9] rfl ?_
                                exact hj194 _ _ _ _ _ _ s209 hS210 hw
                              · have hw := hw.2 hc
                                refine z_aload_n C 1 dL_law_840 rfl ?_
                                refine z_fi C hR hL (wr := (zFr g mo to eo m130 t131 e132)) (wf := WX a g) (u0 := s209) (As := []) (c_X4_isClosed l D a g s209 _ (X_closed hS210)) gL_law_X4_isClosed rfl ⟨by decide +kernel, by decide +kernel, (show (parseMethodDescriptor yX4_isClosed.desc).map (fun d => d.parameters.length) = some 0 from by decide +kernel)⟩ ⟨Nat.le_of_ble_eq_true rfl, Nat.le_of_ble_eq_true rfl⟩ ⟨by dsimp only [room_1]; omega, by dsimp only [room_1]; omega⟩ 0 4 rfl rfl rfl rfl (Nat.le_of_ble_eq_true rfl) dL_law_841 (fun r212 s213 hk => ?_)
                                refine z_widen (k := ((100 + 1852 + 1147 * (62 - (n67 + 1))) + 0)) (n := ((1000 + 11112 + 6882 * (62 - (n67 + 1))) + 0)) (by dsimp only; omega) (by dsimp only; omega) ?_
                                obtain ⟨es213, er212⟩ := hk
                                have hS214 : ST A128 P211 s213 := es213 ▸ hS210
                                have hw := hw r212 er212
                                refine z_if_ne C 851 dL_law_844 (by decide) (fun hc => ?_) (fun hc => ?_)
                                · have hw := hw.1 hc
                                  refine z_iconst C 0 dL_law_851 (by decide) ?_
                                  refine z_sub (lv' := [(0, .ref b), (1, .ref (a 0)), (2, .ref mo), (3, .ref to), (4, .ref eo), (6, .int v32), (7, .int x44), (9, .int x58)]) [0, 1, 2, 3, 4, 6, 7, 9] rfl ?_
                                  exact hj194 _ _ _ _ _ _ s213 hS214 hw
                                · have hw := hw.2 hc
                                  refine z_iconst C 1 dL_law_847 (by decide) ?_
                                  refine z_goto C 852 dL_law_848 (by decide) ?_
                                  refine z_sub (lv' := [(0, .ref b), (1, .ref (a 0)), (2, .ref mo), (3, .ref to), (4, .ref eo), (6, .int v32), (7, .int x44), (9, .int x58)]) [0, 1, 2, 3, 4, 6, 7, 9] rfl ?_
                                  exact hj194 _ _ _ _ _ _ s213 hS214 hw
                        · have hw := hw.2 hc
                          refine z_iload C 11 dL_law_641 rfl ?_
                          refine z_sipush C 5000 dL_law_643 (by decide) ?_
                          obtain ⟨b215, hw⟩ := hw
                          refine z_irem C dL_law_646 b215 ?_
                          refine z_topi (fun x216 ex216 => ?_)
                          have hw := hw x216 ex216
                          refine z_istore (lv' := [(12, .int x216), (0, .ref b), (1, .ref (a 0)), (2, .ref mo), (3, .ref to), (4, .ref eo), (5, .int v31), (6, .int v32), (7, .int x44), (8, .int x56), (9, .int x58), (10, .int x71), (11, .int x73)]) C dL_law_647 (by decide) rfl ?_
                          refine z_aload_n C 2 dL_law_649 rfl ?_
                          refine z_iconst C 4 dL_law_650 (by decide) ?_
                          refine z_iload C 0 dL_law_651 rfl ?_
                          refine z_iconst C 0 dL_law_653 (by decide) ?_
                          refine z_iconst C 0 dL_law_654 (by decide) ?_
                          refine z_iconst C 0 dL_law_655 (by decide) ?_
                          refine z_fwl C hR hL CL (wr := (zFr g mo to eo m130 t131 e132)) (wf := WX a g) (u0 := s126) (As := [.ref (a 0), .int 4, .int x216, .int 0, .int 0, .int 0]) (c_L_act l hst D a g ea A128 P129 s126 hS127 (4) x216 (0) (0) (0)) gL_law_L_act rfl ⟨by decide +kernel, by decide +kernel, (show (parseMethodDescriptor yL_act.desc).map (fun d => d.parameters.length) = some 6 from by decide +kernel)⟩ ⟨Nat.le_of_ble_eq_true rfl, Nat.le_of_ble_eq_true rfl⟩ ⟨by dsimp only [room_1]; omega, by dsimp only [room_1]; omega⟩ rfl (Nat.le_of_ble_eq_true rfl) dL_law_656 (fun r217 s218 hk => ?_)
                          refine z_widen (k := ((100 + 1852 + 1147 * (62 - (n67 + 1))) + 3)) (n := ((1000 + 11112 + 6882 * (62 - (n67 + 1))) + 18)) (by dsimp only; omega) (by dsimp only; omega) ?_
                          obtain ⟨A220, P221, er217, hS219⟩ := hk
                          have hw := hw r217 A220 P221 er217
                          refine z_topl (fun x222 ex222 => ?_)
                          have hw := hw x222 ex222
                          refine z_lstore (lv' := [(13, .long x222), (12, .int x216), (0, .ref b), (1, .ref (a 0)), (2, .ref mo), (3, .ref to), (4, .ref eo), (5, .int v31), (6, .int v32), (7, .int x44), (8, .int x56), (9, .int x58), (10, .int x71), (11, .int x73)]) C dL_law_659 (by decide) rfl ?_
                          refine z_iconst C 0 dL_law_661 (by decide) ?_
                          refine z_topi (fun x223 ex223 => ?_)
                          have hw := hw x223 ex223
                          refine z_istore (lv' := [(15, .int x223), (13, .long x222), (12, .int x216), (0, .ref b), (1, .ref (a 0)), (2, .ref mo), (3, .ref to), (4, .ref eo), (5, .int v31), (6, .int v32), (7, .int x44), (8, .int x56), (9, .int x58), (10, .int x71), (11, .int x73)]) C dL_law_662 (by decide) rfl ?_
                          refine z_iconst C 0 dL_law_664 (by decide) ?_
                          refine z_topi (fun x224 ex224 => ?_)
                          have hw := hw x224 ex224
                          refine z_istore (lv' := [(16, .int x224), (15, .int x223), (13, .long x222), (12, .int x216), (0, .ref b), (1, .ref (a 0)), (2, .ref mo), (3, .ref to), (4, .ref eo), (5, .int v31), (6, .int v32), (7, .int x44), (8, .int x56), (9, .int x58), (10, .int x71), (11, .int x73)]) C dL_law_665 (by decide) rfl ?_
                          refine z_sub (lv' := [(0, .ref b), (1, .ref (a 0)), (2, .ref mo), (3, .ref to), (4, .ref eo), (6, .int v32), (7, .int x44), (9, .int x58), (12, .int x216), (13, .long x222), (15, .int x223), (16, .int x224)]) [4, 5, 6, 7, 8, 10, 11, 13, 3, 2, 1, 0] rfl ?_
                          obtain ⟨K225, n226, hn227, hK228, hw⟩ := hw
                          have hx229 : ∀ (v231 : Int32) (A234 : zNt) (P235 : zPa) (m236 t237 e238 : Nat → Int32) (s232 : zS) (hS233 : ST A234 P235 s232), K225 v231 A234 P235 m236 t237 e238 → zV X D 18 ((100 + 1852 + 1147 * (62 - (n67 + 1))) + 51) ((1000 + 11112 + 6882 * (62 - (n67 + 1))) + 306) ((zFr g mo to eo m236 t237 e238) ++ WX a g s232) 760 [(0, .ref b), (1, .ref (a 0)), (2, .ref mo), (3, .ref to), (4, .ref eo), (6, .int v32), (7, .int x44), (9, .int x58), (12, .int x216), (13, .long x222), (15, .int v231)] [] := by
                            intro v231 A234 P235 m236 t237 e238 s232 hS233 hw0
                            have hw := hK228 v231 A234 P235 m236 t237 e238 hw0
                            refine z_lload C 9 dL_law_760 rfl ?_
                            refine z_iload C 10 dL_law_762 rfl ?_
                            refine z_i2l C dL_law_764 ?_
                            refine z_lcmp_ne C 810 dL_law_765 dL_law_766 (by decide) (fun hc => ?_) (fun hc => ?_)
                            · have hw := hw.1 hc
                              refine z_iconst C 0 dL_law_810 (by decide) ?_
                              refine z_topi (fun x239 ex239 => ?_)
                              have hw := hw x239 ex239
                              refine z_istore (lv' := [(5, .int x239), (0, .ref b), (1, .ref (a 0)), (2, .ref mo), (3, .ref to), (4, .ref eo), (6, .int v32), (7, .int x44), (9, .int x58), (12, .int x216), (13, .long x222), (15, .int v231)]) C dL_law_811 (by decide) rfl ?_
                              refine z_goto C 992 dL_law_813 (by decide) ?_
                              refine z_sub (lv' := [(0, .ref b), (1, .ref (a 0)), (2, .ref mo), (3, .ref to), (4, .ref eo), (5, .int x239), (6, .int v32), (7, .int x44), (9, .int x58)]) [1, 2, 3, 4, 5, 0, 6, 7, 8] rfl ?_
                              refine z_widen (k := ((100 + 1852 + 1147 * (62 - (n67 + 1))) + 76)) (n := ((1000 + 11112 + 6882 * (62 - (n67 + 1))) + 456)) (by omega) (by omega) ?_
                              exact hj76 _ _ _ _ _ _ s232 hS233 hw
                            · have hw := hw.2 hc
                              refine z_aload_n C 1 dL_law_769 rfl ?_
                              refine z_fi C hR hL (wr := (zFr g mo to eo m236 t237 e238)) (wf := WX a g) (u0 := s232) (As := []) (c_X4_worst l D a g s232 _ (X_worst hS233)) gL_law_X4_worst rfl ⟨by decide +kernel, by decide +kernel, (show (parseMethodDescriptor yX4_worst.desc).map (fun d => d.parameters.length) = some 0 from by decide +kernel)⟩ ⟨Nat.le_of_ble_eq_true rfl, Nat.le_of_ble_eq_true rfl⟩ ⟨by dsimp only [room_1]; omega, by dsimp only [room_1]; omega⟩ 0 4 rfl rfl rfl rfl (Nat.le_of_ble_eq_true rfl) dL_law_770 (fun r240 s241 hk => ?_)
                              refine z_widen (k := ((100 + 1852 + 1147 * (62 - (n67 + 1))) + 51)) (n := ((1000 + 11112 + 6882 * (62 - (n67 + 1))) + 306)) (by dsimp only; omega) (by dsimp only; omega) ?_
                              obtain ⟨er240, hS242⟩ := hk
                              have hw := hw r240 er240
                              obtain ⟨k243, hk244, hw⟩ := hw
                              have hj245 : ∀ (A248 : zNt) (P249 : zPa) (m250 t251 e252 : Nat → Int32) (s246 : zS) (hS247 : ST A248 P249 s246), k243 A248 P249 m250 t251 e252 → zV X D 18 ((100 + 1852 + 1147 * (62 - (n67 + 1))) + 53) ((1000 + 11112 + 6882 * (62 - (n67 + 1))) + 318) ((zFr g mo to eo m250 t251 e252) ++ WX a g s246) 791 [(0, .ref b), (1, .ref (a 0)), (2, .ref mo), (3, .ref to), (4, .ref eo), (6, .int v32), (7, .int x44), (9, .int x58), (12, .int x216)] [] := by
                                intro A248 P249 m250 t251 e252 s246 hS247 hw0
                                have hw := hk244 A248 P249 m250 t251 e252 hw0
                                refine z_aload_n C 1 dL_law_791 rfl ?_
                                refine z_iconst C 4 dL_law_792 (by decide) ?_
                                refine z_iload C 8 dL_law_793 rfl ?_
                                refine z_iconst C 0 dL_law_795 (by decide) ?_
                                refine z_iconst C 0 dL_law_796 (by decide) ?_
                                refine z_iconst C 0 dL_law_797 (by decide) ?_
                                refine z_fwl C hR hL CL (wr := (zFr g mo to eo m250 t251 e252)) (wf := WX a g) (u0 := s246) (As := [.ref (a 0), .int 4, .int x216, .int 0, .int 0, .int 0]) (c_L_act l hst D a g ea A248 P249 s246 hS247 (4) x216 (0) (0) (0)) gL_law_L_act rfl ⟨by decide +kernel, by decide +kernel, (show (parseMethodDescriptor yL_act.desc).map (fun d => d.parameters.length) = some 6 from by decide +kernel)⟩ ⟨Nat.le_of_ble_eq_true rfl, Nat.le_of_ble_eq_true rfl⟩ ⟨by dsimp only [room_1]; omega, by dsimp only [room_1]; omega⟩ rfl (Nat.le_of_ble_eq_true rfl) dL_law_798 (fun r253 s254 hk => ?_)
                                refine z_widen (k := ((100 + 1852 + 1147 * (62 - (n67 + 1))) + 56)) (n := ((1000 + 11112 + 6882 * (62 - (n67 + 1))) + 336)) (by dsimp only; omega) (by dsimp only; omega) ?_
                                obtain ⟨A256, P257, er253, hS255⟩ := hk
                                have hw := hw r253 A256 P257 er253
                                refine z_lconst C 0 dL_law_801 (by decide) ?_
                                refine z_lcmp_ne C 810 dL_law_802 dL_law_803 (by decide) (fun hc => ?_) (fun hc => ?_)
                                · have hw := hw.1 hc
                                  refine z_iconst C 0 dL_law_810 (by decide) ?_
                                  refine z_topi (fun x258 ex258 => ?_)
                                  have hw := hw x258 ex258
                                  refine z_istore (lv' := [(5, .int x258), (0, .ref b), (1, .ref (a 0)), (2, .ref mo), (3, .ref to), (4, .ref eo), (6, .int v32), (7, .int x44), (9, .int x58), (12, .int x216)]) C dL_law_811 (by decide) rfl ?_
                                  refine z_goto C 992 dL_law_813 (by decide) ?_
                                  refine z_sub (lv' := [(0, .ref b), (1, .ref (a 0)), (2, .ref mo), (3, .ref to), (4, .ref eo), (5, .int x258), (6, .int v32), (7, .int x44), (9, .int x58)]) [1, 2, 3, 4, 5, 0, 6, 7, 8] rfl ?_
                                  refine z_widen (k := ((100 + 1852 + 1147 * (62 - (n67 + 1))) + 76)) (n := ((1000 + 11112 + 6882 * (62 - (n67 + 1))) + 456)) (by omega) (by omega) ?_
                                  exact hj76 _ _ _ _ _ _ s254 hS255 hw
                                · have hw := hw.2 hc
                                  refine z_iconst C 1 dL_law_806 (by decide) ?_
                                  refine z_goto C 811 dL_law_807 (by decide) ?_
                                  refine z_topi (fun x259 ex259 => ?_)
                                  have hw := hw x259 ex259
                                  refine z_istore (lv' := [(5, .int x259), (0, .ref b), (1, .ref (a 0)), (2, .ref mo), (3, .ref to), (4, .ref eo), (6, .int v32), (7, .int x44), (9, .int x58), (12, .int x216)]) C dL_law_811 (by decide) rfl ?_
                                  refine z_goto C 992 dL_law_813 (by decide) ?_
                                  refine z_sub (lv' := [(0, .ref b), (1, .ref (a 0)), (2, .ref mo), (3, .ref to), (4, .ref eo), (5, .int x259), (6, .int v32), (7, .int x44), (9, .int x58)]) [1, 2, 3, 4, 5, 0, 6, 7, 8] rfl ?_
                                  refine z_widen (k := ((100 + 1852 + 1147 * (62 - (n67 + 1))) + 76)) (n := ((1000 + 11112 + 6882 * (62 - (n67 + 1))) + 456)) (by omega) (by omega) ?_
                                  exact hj76 _ _ _ _ _ _ s254 hS255 hw
                              refine z_if_lt C 791 dL_law_773 (by decide) (fun hc => ?_) (fun hc => ?_)
                              · have hw := hw.1 hc
                                refine z_sub (lv' := [(0, .ref b), (1, .ref (a 0)), (2, .ref mo), (3, .ref to), (4, .ref eo), (6, .int v32), (7, .int x44), (9, .int x58), (12, .int x216)]) [0, 1, 2, 3, 4, 5, 6, 7, 8] rfl ?_
                                refine z_widen (k := ((100 + 1852 + 1147 * (62 - (n67 + 1))) + 53)) (n := ((1000 + 11112 + 6882 * (62 - (n67 + 1))) + 318)) (by omega) (by omega) ?_
                                exact hj245 _ _ _ _ _ s241 hS242 hw
                              · have hw := hw.2 hc
                                refine z_aload_n C 1 dL_law_776 rfl ?_
                                refine z_aload_n C 1 dL_law_777 rfl ?_
                                refine z_fi C hR hL (wr := (zFr g mo to eo m236 t237 e238)) (wf := WX a g) (u0 := s241) (As := []) (c_X4_worst l D a g s241 _ (X_worst hS242)) gL_law_X4_worst rfl ⟨by decide +kernel, by decide +kernel, (show (parseMethodDescriptor yX4_worst.desc).map (fun d => d.parameters.length) = some 0 from by decide +kernel)⟩ ⟨Nat.le_of_ble_eq_true rfl, Nat.le_of_ble_eq_true rfl⟩ ⟨by dsimp only [room_1]; omega, by dsimp only [room_1]; omega⟩ 0 4 rfl rfl rfl rfl (Nat.le_of_ble_eq_true rfl) dL_law_778 (fun r260 s261 hk => ?_)
                                refine z_widen (k := ((100 + 1852 + 1147 * (62 - (n67 + 1))) + 51)) (n := ((1000 + 11112 + 6882 * (62 - (n67 + 1))) + 306)) (by dsimp only; omega) (by dsimp only; omega) ?_
                                obtain ⟨er260, hS262⟩ := hk
                                have hw := hw r260 er260
                                obtain ⟨o266, hj267, ej268, hd269, hw⟩ := hw
                                refine z_xfl0 C hR hL CL (wr := (zFr g mo to eo m236 t237 e238)) (wf := WX a g) (u0 := s261) (As := [.int r260]) (c_X4_score l hst D a g ea s261 r260 _ _ (X_score hS262 r260)) gL_law_X4_score rfl ⟨by decide +kernel, by decide +kernel, (show (parseMethodDescriptor yX4_score.desc).map (fun d => d.parameters.length) = some 1 from by decide +kernel)⟩ ⟨Nat.le_of_ble_eq_true rfl, Nat.le_of_ble_eq_true rfl⟩ ⟨by dsimp only [room_1]; omega, by dsimp only [room_1]; omega⟩ 0 4 rfl rfl rfl rfl (Nat.le_of_ble_eq_true rfl) dL_law_781 (fun E u hx => oX_no (oOb_of (f := aScr A234) (P := P235) hS262.1 hj267 hd269 ej268) hx) (fun r263 s264 hk => ?_)
                                refine z_widen (k := ((100 + 1852 + 1147 * (62 - (n67 + 1))) + 53)) (n := ((1000 + 11112 + 6882 * (62 - (n67 + 1))) + 318)) (by dsimp only; omega) (by dsimp only; omega) ?_
                                obtain ⟨er263, hS265⟩ := oX_l (oOb_of (f := aScr A234) (P := P235) hS262.1 hj267 hd269 ej268) hk
                                have hw := hw r263 er263
                                refine z_iload C 8 dL_law_784 rfl ?_
                                refine z_i2l C dL_law_786 ?_
                                refine z_lcmp_gt C 810 dL_law_787 dL_law_788 (by decide) (fun hc => ?_) (fun hc => ?_)
                                · have hw := hw.1 hc
                                  refine z_iconst C 0 dL_law_810 (by decide) ?_
                                  refine z_topi (fun x270 ex270 => ?_)
                                  have hw := hw x270 ex270
                                  refine z_istore (lv' := [(5, .int x270), (0, .ref b), (1, .ref (a 0)), (2, .ref mo), (3, .ref to), (4, .ref eo), (6, .int v32), (7, .int x44), (9, .int x58), (12, .int x216), (13, .long x222), (15, .int v231)]) C dL_law_811 (by decide) rfl ?_
                                  refine z_goto C 992 dL_law_813 (by decide) ?_
                                  refine z_sub (lv' := [(0, .ref b), (1, .ref (a 0)), (2, .ref mo), (3, .ref to), (4, .ref eo), (5, .int x270), (6, .int v32), (7, .int x44), (9, .int x58)]) [1, 2, 3, 4, 5, 0, 6, 7, 8] rfl ?_
                                  refine z_widen (k := ((100 + 1852 + 1147 * (62 - (n67 + 1))) + 76)) (n := ((1000 + 11112 + 6882 * (62 - (n67 + 1))) + 456)) (by omega) (by omega) ?_
                                  exact hj76 _ _ _ _ _ _ s264 hS265 hw
                                · have hw := hw.2 hc
                                  refine z_sub (lv' := [(0, .ref b), (1, .ref (a 0)), (2, .ref mo), (3, .ref to), (4, .ref eo), (6, .int v32), (7, .int x44), (9, .int x58), (12, .int x216)]) [0, 1, 2, 3, 4, 5, 6, 7, 8] rfl ?_
                                  exact hj245 _ _ _ _ _ s264 hS265 hw
                          have lp230 : ∀ n667 : Nat, n667 ≤ 16 → ∀ (v271 : Int32) (v272 : Int32) (A275 : zNt) (P276 : zPa) (m277 t278 e279 : Nat → Int32) (s273 : zS) (hS274 : ST A275 P276 s273), W_L_law_L667 v32 x44 x58 x216 x222  K225 n667 v271 v272 A275 P276 m277 t278 e279 → zV X D 18 (((100 + 1852 + 1147 * (62 - (n67 + 1))) + 3 + 3 * (16 - n667)) + 0) (((1000 + 11112 + 6882 * (62 - (n67 + 1))) + 18 + 18 * (16 - n667)) + 0) ((zFr g mo to eo m277 t278 e279) ++ WX a g s273) 667 [(0, .ref b), (1, .ref (a 0)), (2, .ref mo), (3, .ref to), (4, .ref eo), (6, .int v32), (7, .int x44), (9, .int x58), (12, .int x216), (13, .long x222), (15, .int v271), (16, .int v272)] [] := by
                            intro n667
                            induction n667 with
                            | zero => intro _ v271 v272 A275 P276 m277 t278 e279 s273 hS274 hw; exact False.elim hw
                            | succ n667 ih =>
                              intro hn v271 v272 A275 P276 m277 t278 e279 s273 hS274 hw
                              have hw : _ := hw
                              refine z_iload C 11 dL_law_667 rfl ?_
                              refine z_aload_n C 2 dL_law_669 rfl ?_
                              refine z_iconst C 1 dL_law_670 (by decide) ?_
                              obtain ⟨b280, hw⟩ := hw
                              refine z_iald C 0 0 rfl rfl b280 dL_law_671 ?_
                              refine z_icmp_ge C 760 dL_law_672 (by decide) (fun hc => ?_) (fun hc => ?_)
                              · have hw := hw.1 hc
                                refine z_sub (lv' := [(0, .ref b), (1, .ref (a 0)), (2, .ref mo), (3, .ref to), (4, .ref eo), (6, .int v32), (7, .int x44), (9, .int x58), (12, .int x216), (13, .long x222), (15, .int v271)]) [0, 1, 2, 3, 4, 5, 6, 7, 8, 9, 10] rfl ?_
                                refine z_widen (k := ((100 + 1852 + 1147 * (62 - (n67 + 1))) + 51)) (n := ((1000 + 11112 + 6882 * (62 - (n67 + 1))) + 306)) (by omega) (by omega) ?_
                                exact hx229 _ _ _ _ _ _ s273 hS274 hw
                              · have hw := hw.2 hc
                                refine z_aload C 4 dL_law_675 rfl ?_
                                refine z_iconst C 5 dL_law_677 (by decide) ?_
                                refine z_iload C 11 dL_law_678 rfl ?_
                                refine z_imul C dL_law_680 ?_
                                refine z_iconst C 4 dL_law_681 (by decide) ?_
                                refine z_iadd C dL_law_682 ?_
                                obtain ⟨b281, hw⟩ := hw
                                refine z_iald C 2 0 rfl rfl b281 dL_law_683 ?_
                                obtain ⟨k282, hk283, hw⟩ := hw
                                have hj284 : ∀ (v285 : Int32) (A288 : zNt) (P289 : zPa) (m290 t291 e292 : Nat → Int32) (s286 : zS) (hS287 : ST A288 P289 s286), k282 v285 A288 P289 m290 t291 e292 → zV X D 18 (((100 + 1852 + 1147 * (62 - (n67 + 1))) + 3 + 3 * (16 - (n667 + 1))) + 3) (((1000 + 11112 + 6882 * (62 - (n67 + 1))) + 18 + 18 * (16 - (n667 + 1))) + 18) ((zFr g mo to eo m290 t291 e292) ++ WX a g s286) 710 [(0, .ref b), (1, .ref (a 0)), (2, .ref mo), (3, .ref to), (4, .ref eo), (6, .int v32), (7, .int x44), (9, .int x58), (12, .int x216), (13, .long x222), (15, .int v271), (16, .int v272)] [.int v285] := by
                                  intro v285 A288 P289 m290 t291 e292 s286 hS287 hw0
                                  have hw := hk283 v285 A288 P289 m290 t291 e292 hw0
                                  refine z_topi (fun x293 ex293 => ?_)
                                  have hw := hw x293 ex293
                                  refine z_istore (lv' := [(17, .int x293), (0, .ref b), (1, .ref (a 0)), (2, .ref mo), (3, .ref to), (4, .ref eo), (6, .int v32), (7, .int x44), (9, .int x58), (12, .int x216), (13, .long x222), (15, .int v271), (16, .int v272)]) C dL_law_710 (by decide) rfl ?_
                                  refine z_iload C 11 dL_law_712 rfl ?_
                                  refine z_iload C 0 dL_law_714 rfl ?_
                                  obtain ⟨k294, hk295, hw⟩ := hw
                                  have hj296 : ∀ (v297 : Int32) (A300 : zNt) (P301 : zPa) (m302 t303 e304 : Nat → Int32) (s298 : zS) (hS299 : ST A300 P301 s298), k294 v297 A300 P301 m302 t303 e304 → zV X D 18 (((100 + 1852 + 1147 * (62 - (n67 + 1))) + 3 + 3 * (16 - (n667 + 1))) + 3) (((1000 + 11112 + 6882 * (62 - (n67 + 1))) + 18 + 18 * (16 - (n667 + 1))) + 18) ((zFr g mo to eo m302 t303 e304) ++ WX a g s298) 724 [(0, .ref b), (1, .ref (a 0)), (2, .ref mo), (3, .ref to), (4, .ref eo), (6, .int v32), (7, .int x44), (9, .int x58), (12, .int x216), (13, .long x222), (16, .int v272), (17, .int x293)] [.int v297, .int v271] := by
                                    intro v297 A300 P301 m302 t303 e304 s298 hS299 hw0
                                    have hw := hk295 v297 A300 P301 m302 t303 e304 hw0
                                    refine z_iadd C dL_law_724 ?_
                                    refine z_topi (fun x305 ex305 => ?_)
                                    have hw := hw x305 ex305
                                    refine z_istore (lv' := [(15, .int x305), (0, .ref b), (1, .ref (a 0)), (2, .ref mo), (3, .ref to), (4, .ref eo), (6, .int v32), (7, .int x44), (9, .int x58), (12, .int x216), (13, .long x222), (16, .int v272), (17, .int x293)]) C dL_law_725 (by decide) rfl ?_
                                    refine z_aload C 5 dL_law_727 rfl ?_
                                    refine z_iconst C 5 dL_law_729 (by decide) ?_
                                    refine z_iload C 11 dL_law_730 rfl ?_
                                    refine z_imul C dL_law_732 ?_
                                    refine z_iconst C 4 dL_law_733 (by decide) ?_
                                    refine z_iadd C dL_law_734 ?_
                                    refine z_iload C 12 dL_law_735 rfl ?_
                                    refine z_if_eq C 744 dL_law_737 (by decide) (fun hc => ?_) (fun hc => ?_)
                                    · have hw := hw.1 hc
                                      refine z_aload C 5 dL_law_744 rfl ?_
                                      refine z_iconst C 5 dL_law_746 (by decide) ?_
                                      refine z_iload C 11 dL_law_747 rfl ?_
                                      refine z_imul C dL_law_749 ?_
                                      refine z_iconst C 4 dL_law_750 (by decide) ?_
                                      refine z_iadd C dL_law_751 ?_
                                      obtain ⟨b306, hw⟩ := hw
                                      refine z_iald C 2 0 rfl rfl b306 dL_law_752 ?_
                                      obtain ⟨b307, hw⟩ := hw
                                      obtain ⟨e308, ee308⟩ : ∃ z : Nat → Int32, z = upd e304 (ix ((5 * v272) + 4)) (e304 (ix ((5 * v272) + 4))) := ⟨_, rfl⟩
                                      have hw := hw e308 ee308
                                      refine z_iast (ws' := ((zFr g mo to eo m302 t303 e308) ++ WX a g s298)) C 2 0 rfl rfl b307 dL_law_753 (by rw [ee308]; rfl) ?_
                                      obtain ⟨x309, ex309⟩ : ∃ z : Int32, z = v272 + 1 := ⟨_, rfl⟩
                                      have hw := hw x309 ex309
                                      refine z_iinc (lv' := [(16, .int x309), (15, .int x305), (0, .ref b), (1, .ref (a 0)), (2, .ref mo), (3, .ref to), (4, .ref eo), (6, .int v32), (7, .int x44), (9, .int x58), (12, .int x216), (13, .long x222), (17, .int x293)]) C 11 dL_law_754 rfl (by rw [ex309]; rfl) (by decide) rfl ?_
                                      refine z_goto C 667 dL_law_757 (by decide) ?_
                                      refine z_sub (lv' := [(0, .ref b), (1, .ref (a 0)), (2, .ref mo), (3, .ref to), (4, .ref eo), (6, .int v32), (7, .int x44), (9, .int x58), (12, .int x216), (13, .long x222), (15, .int x305), (16, .int x309)]) [2, 3, 4, 5, 6, 7, 8, 9, 10, 11, 1, 0] rfl ?_
                                      refine z_widen (k := (((100 + 1852 + 1147 * (62 - (n67 + 1))) + 3 + 3 * (16 - n667)) + 0)) (n := (((1000 + 11112 + 6882 * (62 - (n67 + 1))) + 18 + 18 * (16 - n667)) + 0)) (by omega) (by omega) ?_
                                      exact ih (by omega) _ _ _ _ _ _ _ s298 hS299 hw
                                    · have hw := hw.2 hc
                                      refine z_iconst C 1 dL_law_740 (by decide) ?_
                                      refine z_goto C 753 dL_law_741 (by decide) ?_
                                      obtain ⟨b310, hw⟩ := hw
                                      obtain ⟨e311, ee311⟩ : ∃ z : Nat → Int32, z = upd e304 (ix ((5 * v272) + 4)) 1 := ⟨_, rfl⟩
                                      have hw := hw e311 ee311
                                      refine z_iast (ws' := ((zFr g mo to eo m302 t303 e311) ++ WX a g s298)) C 2 0 rfl rfl b310 dL_law_753 (by rw [ee311]; rfl) ?_
                                      obtain ⟨x312, ex312⟩ : ∃ z : Int32, z = v272 + 1 := ⟨_, rfl⟩
                                      have hw := hw x312 ex312
                                      refine z_iinc (lv' := [(16, .int x312), (15, .int x305), (0, .ref b), (1, .ref (a 0)), (2, .ref mo), (3, .ref to), (4, .ref eo), (6, .int v32), (7, .int x44), (9, .int x58), (12, .int x216), (13, .long x222), (17, .int x293)]) C 11 dL_law_754 rfl (by rw [ex312]; rfl) (by decide) rfl ?_
                                      refine z_goto C 667 dL_law_757 (by decide) ?_
                                      refine z_sub (lv' := [(0, .ref b), (1, .ref (a 0)), (2, .ref mo), (3, .ref to), (4, .ref eo), (6, .int v32), (7, .int x44), (9, .int x58), (12, .int x216), (13, .long x222), (15, .int x305), (16, .int x312)]) [2, 3, 4, 5, 6, 7, 8, 9, 10, 11, 1, 0] rfl ?_
                                      refine z_widen (k := (((100 + 1852 + 1147 * (62 - (n67 + 1))) + 3 + 3 * (16 - n667)) + 0)) (n := (((1000 + 11112 + 6882 * (62 - (n67 + 1))) + 18 + 18 * (16 - n667)) + 0)) (by omega) (by omega) ?_
                                      exact ih (by omega) _ _ _ _ _ _ _ s298 hS299 hw
                                  refine z_if_eq C 723 dL_law_716 (by decide) (fun hc => ?_) (fun hc => ?_)
                                  · have hw := hw.1 hc
                                    refine z_iconst C 0 dL_law_723 (by decide) ?_
                                    refine z_sub (lv' := [(0, .ref b), (1, .ref (a 0)), (2, .ref mo), (3, .ref to), (4, .ref eo), (6, .int v32), (7, .int x44), (9, .int x58), (12, .int x216), (13, .long x222), (16, .int v272), (17, .int x293)]) [1, 2, 3, 4, 5, 6, 7, 8, 9, 10, 12, 0] rfl ?_
                                    exact hj296 _ _ _ _ _ _ s286 hS287 hw
                                  · have hw := hw.2 hc
                                    refine z_iconst C 1 dL_law_719 (by decide) ?_
                                    refine z_goto C 724 dL_law_720 (by decide) ?_
                                    refine z_sub (lv' := [(0, .ref b), (1, .ref (a 0)), (2, .ref mo), (3, .ref to), (4, .ref eo), (6, .int v32), (7, .int x44), (9, .int x58), (12, .int x216), (13, .long x222), (16, .int v272), (17, .int x293)]) [1, 2, 3, 4, 5, 6, 7, 8, 9, 10, 12, 0] rfl ?_
                                    exact hj296 _ _ _ _ _ _ s286 hS287 hw
                                refine z_if_ne C 709 dL_law_684 (by decide) (fun hc => ?_) (fun hc => ?_)
                                · have hw := hw.1 hc
                                  refine z_iconst C 0 dL_law_709 (by decide) ?_
                                  refine z_widen (k := (((100 + 1852 + 1147 * (62 - (n67 + 1))) + 3 + 3 * (16 - (n667 + 1))) + 3)) (n := (((1000 + 11112 + 6882 * (62 - (n67 + 1))) + 18 + 18 * (16 - (n667 + 1))) + 18)) (by omega) (by omega) ?_
                                  exact hj284 _ _ _ _ _ _ s273 hS274 hw
                                · have hw := hw.2 hc
                                  refine z_aload_n C 1 dL_law_687 rfl ?_
                                  refine z_bipush C 9 dL_law_688 (by decide) ?_
                                  refine z_iload C 11 dL_law_690 rfl ?_
                                  refine z_iconst C 0 dL_law_692 (by decide) ?_
                                  refine z_iconst C 0 dL_law_693 (by decide) ?_
                                  refine z_iconst C 0 dL_law_694 (by decide) ?_
                                  refine z_fwl C hR hL CL (wr := (zFr g mo to eo m277 t278 e279)) (wf := WX a g) (u0 := s273) (As := [.ref (a 0), .int 9, .int v272, .int 0, .int 0, .int 0]) (c_L_act l hst D a g ea A275 P276 s273 hS274 (9) v272 (0) (0) (0)) gL_law_L_act rfl ⟨by decide +kernel, by decide +kernel, (show (parseMethodDescriptor yL_act.desc).map (fun d => d.parameters.length) = some 6 from by decide +kernel)⟩ ⟨Nat.le_of_ble_eq_true rfl, Nat.le_of_ble_eq_true rfl⟩ ⟨by dsimp only [room_1]; omega, by dsimp only [room_1]; omega⟩ rfl (Nat.le_of_ble_eq_true rfl) dL_law_695 (fun r313 s314 hk => ?_)
                                  refine z_widen (k := (((100 + 1852 + 1147 * (62 - (n67 + 1))) + 3 + 3 * (16 - (n667 + 1))) + 3)) (n := (((1000 + 11112 + 6882 * (62 - (n67 + 1))) + 18 + 18 * (16 - (n667 + 1))) + 18)) (by dsimp only; omega) (by dsimp only; omega) ?_
                                  obtain ⟨A316, P317, er313, hS315⟩ := hk
                                  have hw := hw r313 A316 P317 er313
                                  refine z_ldc2 C (-161300000000000000) (List.mem_of_getElem? (i := 4) rfl) dL_law_698 ?_
                                  refine z_lcmp_ne C 709 dL_law_701 dL_law_702 (by decide) (fun hc => ?_) (fun hc => ?_)
                                  · have hw := hw.1 hc
                                    refine z_iconst C 0 dL_law_709 (by decide) ?_
                                    exact hj284 _ _ _ _ _ _ s314 hS315 hw
                                  · have hw := hw.2 hc
                                    refine z_iconst C 1 dL_law_705 (by decide) ?_
                                    refine z_goto C 710 dL_law_706 (by decide) ?_
                                    exact hj284 _ _ _ _ _ _ s314 hS315 hw
                          refine z_widen (k := ((100 + 1852 + 1147 * (62 - (n67 + 1))) + 3 + 3 * (16 - n226)) + 0) (n := ((1000 + 11112 + 6882 * (62 - (n67 + 1))) + 18 + 18 * (16 - n226)) + 0) (by omega) (by omega) ?_
                          exact lp230 n226 hn227 _ _ _ _ _ _ _ s218 hS219 hw
                      refine z_icmp_ge C 634 dL_law_529 (by decide) (fun hc => ?_) (fun hc => ?_)
                      · have hw := hw.1 hc
                        exact hj125 _ _ _ _ _ s116 hS117 hw
                      · have hw := hw.2 hc
                        refine z_iload C 8 dL_law_532 rfl ?_
                        refine z_bipush C 11 dL_law_534 (by decide) ?_
                        refine z_icmp_le C 634 dL_law_536 (by decide) (fun hc => ?_) (fun hc => ?_)
                        · have hw := hw.1 hc
                          exact hj125 _ _ _ _ _ s116 hS117 hw
                        · have hw := hw.2 hc
                          refine z_aload_n C 2 dL_law_539 rfl ?_
                          refine z_iconst C 1 dL_law_540 (by decide) ?_
                          obtain ⟨b318, hw⟩ := hw
                          refine z_iald C 0 0 rfl rfl b318 dL_law_541 ?_
                          refine z_if_le C 634 dL_law_542 (by decide) (fun hc => ?_) (fun hc => ?_)
                          · have hw := hw.1 hc
                            exact hj125 _ _ _ _ _ s116 hS117 hw
                          · have hw := hw.2 hc
                            refine z_iload C 11 dL_law_545 rfl ?_
                            refine z_aload_n C 2 dL_law_547 rfl ?_
                            refine z_iconst C 1 dL_law_548 (by decide) ?_
                            obtain ⟨b319, hw⟩ := hw
                            refine z_iald C 0 0 rfl rfl b319 dL_law_549 ?_
                            obtain ⟨b320, hw⟩ := hw
                            refine z_irem C dL_law_550 b320 ?_
                            refine z_topi (fun x321 ex321 => ?_)
                            have hw := hw x321 ex321
                            refine z_istore (lv' := [(12, .int x321), (0, .ref b), (1, .ref (a 0)), (2, .ref mo), (3, .ref to), (4, .ref eo), (5, .int v31), (6, .int v32), (7, .int x44), (8, .int x56), (9, .int x58), (10, .int x71), (11, .int x73)]) C dL_law_551 (by decide) rfl ?_
                            refine z_iload C 12 dL_law_553 rfl ?_
                            refine z_bipush C 14 dL_law_555 (by decide) ?_
                            obtain ⟨b322, hw⟩ := hw
                            refine z_idiv C dL_law_557 b322 ?_
                            refine z_iconst C 3 dL_law_558 (by decide) ?_
                            obtain ⟨b323, hw⟩ := hw
                            refine z_irem C dL_law_559 b323 ?_
                            obtain ⟨k324, hk325, hw⟩ := hw
                            have hj326 : ∀ (v327 : Int32) (A330 : zNt) (P331 : zPa) (m332 t333 e334 : Nat → Int32) (s328 : zS) (hS329 : ST A330 P331 s328), k324 v327 A330 P331 m332 t333 e334 → zV X D 18 ((100 + 1852 + 1147 * (62 - (n67 + 1))) + 0) ((1000 + 11112 + 6882 * (62 - (n67 + 1))) + 0) ((zFr g mo to eo m332 t333 e334) ++ WX a g s328) 568 [(0, .ref b), (1, .ref (a 0)), (2, .ref mo), (3, .ref to), (4, .ref eo), (6, .int v32), (7, .int x44), (9, .int x58), (12, .int x321)] [.int v327] := by
                              intro v327 A330 P331 m332 t333 e334 s328 hS329 hw0
                              have hw := hk325 v327 A330 P331 m332 t333 e334 hw0
                              refine z_topi (fun x335 ex335 => ?_)
                              have hw := hw x335 ex335
                              refine z_istore (lv' := [(13, .int x335), (0, .ref b), (1, .ref (a 0)), (2, .ref mo), (3, .ref to), (4, .ref eo), (6, .int v32), (7, .int x44), (9, .int x58), (12, .int x321)]) C dL_law_568 (by decide) rfl ?_
                              refine z_aload_n C 2 dL_law_570 rfl ?_
                              refine z_iconst C 3 dL_law_571 (by decide) ?_
                              refine z_iload C 9 dL_law_572 rfl ?_
                              refine z_iload C 0 dL_law_574 rfl ?_
                              refine z_iconst C 0 dL_law_576 (by decide) ?_
                              refine z_iconst C 0 dL_law_577 (by decide) ?_
                              refine z_fwl C hR hL CL (wr := (zFr g mo to eo m332 t333 e334)) (wf := WX a g) (u0 := s328) (As := [.ref (a 0), .int 3, .int x321, .int x335, .int 0, .int 0]) (c_L_act l hst D a g ea A330 P331 s328 hS329 (3) x321 x335 (0) (0)) gL_law_L_act rfl ⟨by decide +kernel, by decide +kernel, (show (parseMethodDescriptor yL_act.desc).map (fun d => d.parameters.length) = some 6 from by decide +kernel)⟩ ⟨Nat.le_of_ble_eq_true rfl, Nat.le_of_ble_eq_true rfl⟩ ⟨by dsimp only [room_1]; omega, by dsimp only [room_1]; omega⟩ rfl (Nat.le_of_ble_eq_true rfl) dL_law_578 (fun r336 s337 hk => ?_)
                              refine z_widen (k := ((100 + 1852 + 1147 * (62 - (n67 + 1))) + 3)) (n := ((1000 + 11112 + 6882 * (62 - (n67 + 1))) + 18)) (by dsimp only; omega) (by dsimp only; omega) ?_
                              obtain ⟨A339, P340, er336, hS338⟩ := hk
                              have hw := hw r336 A339 P340 er336
                              refine z_aload C 5 dL_law_581 rfl ?_
                              refine z_iconst C 5 dL_law_583 (by decide) ?_
                              refine z_iload C 9 dL_law_584 rfl ?_
                              refine z_imul C dL_law_586 ?_
                              refine z_iconst C 4 dL_law_587 (by decide) ?_
                              refine z_iadd C dL_law_588 ?_
                              obtain ⟨b341, hw⟩ := hw
                              refine z_iald C 2 0 rfl rfl b341 dL_law_589 ?_
                              refine z_i2l C dL_law_590 ?_
                              obtain ⟨k342, hk343, hw⟩ := hw
                              have hj344 : ∀ (v345 : Int32) (A348 : zNt) (P349 : zPa) (m350 t351 e352 : Nat → Int32) (s346 : zS) (hS347 : ST A348 P349 s346), k342 v345 A348 P349 m350 t351 e352 → zV X D 18 ((100 + 1852 + 1147 * (62 - (n67 + 1))) + 6) ((1000 + 11112 + 6882 * (62 - (n67 + 1))) + 36) ((zFr g mo to eo m350 t351 e352) ++ WX a g s346) 618 [(0, .ref b), (1, .ref (a 0)), (2, .ref mo), (3, .ref to), (4, .ref eo), (6, .int v32), (7, .int x44), (9, .int x58), (12, .int x321), (13, .int x335)] [.int v345] := by
                                intro v345 A348 P349 m350 t351 e352 s346 hS347 hw0
                                have hw := hk343 v345 A348 P349 m350 t351 e352 hw0
                                refine z_topi (fun x353 ex353 => ?_)
                                have hw := hw x353 ex353
                                refine z_istore (lv' := [(5, .int x353), (0, .ref b), (1, .ref (a 0)), (2, .ref mo), (3, .ref to), (4, .ref eo), (6, .int v32), (7, .int x44), (9, .int x58), (12, .int x321), (13, .int x335)]) C dL_law_618 (by decide) rfl ?_
                                refine z_aload C 5 dL_law_620 rfl ?_
                                refine z_iconst C 5 dL_law_622 (by decide) ?_
                                refine z_iload C 9 dL_law_623 rfl ?_
                                refine z_imul C dL_law_625 ?_
                                refine z_iconst C 4 dL_law_626 (by decide) ?_
                                refine z_iadd C dL_law_627 ?_
                                refine z_iload C 10 dL_law_628 rfl ?_
                                obtain ⟨b354, hw⟩ := hw
                                obtain ⟨e355, ee355⟩ : ∃ z : Nat → Int32, z = upd e352 (ix ((5 * x321) + 4)) x335 := ⟨_, rfl⟩
                                have hw := hw e355 ee355
                                refine z_iast (ws' := ((zFr g mo to eo m350 t351 e355) ++ WX a g s346)) C 2 0 rfl rfl b354 dL_law_630 (by rw [ee355]; rfl) ?_
                                refine z_goto C 992 dL_law_631 (by decide) ?_
                                refine z_sub (lv' := [(0, .ref b), (1, .ref (a 0)), (2, .ref mo), (3, .ref to), (4, .ref eo), (5, .int x353), (6, .int v32), (7, .int x44), (9, .int x58)]) [1, 2, 3, 4, 5, 0, 6, 7, 8] rfl ?_
                                refine z_widen (k := ((100 + 1852 + 1147 * (62 - (n67 + 1))) + 76)) (n := ((1000 + 11112 + 6882 * (62 - (n67 + 1))) + 456)) (by omega) (by omega) ?_
                                exact hj76 _ _ _ _ _ _ s346 hS347 hw
                              refine z_lcmp_ne C 617 dL_law_591 dL_law_592 (by decide) (fun hc => ?_) (fun hc => ?_)
                              · have hw := hw.1 hc
                                refine z_iconst C 0 dL_law_617 (by decide) ?_
                                refine z_sub (lv' := [(0, .ref b), (1, .ref (a 0)), (2, .ref mo), (3, .ref to), (4, .ref eo), (6, .int v32), (7, .int x44), (9, .int x58), (12, .int x321), (13, .int x335)]) [1, 2, 3, 4, 5, 6, 7, 8, 9, 0] rfl ?_
                                refine z_widen (k := ((100 + 1852 + 1147 * (62 - (n67 + 1))) + 6)) (n := ((1000 + 11112 + 6882 * (62 - (n67 + 1))) + 36)) (by omega) (by omega) ?_
                                exact hj344 _ _ _ _ _ _ s337 hS338 hw
                              · have hw := hw.2 hc
                                refine z_aload_n C 2 dL_law_595 rfl ?_
                                refine z_iconst C 3 dL_law_596 (by decide) ?_
                                refine z_iload C 9 dL_law_597 rfl ?_
                                refine z_iload C 0 dL_law_599 rfl ?_
                                refine z_iconst C 0 dL_law_601 (by decide) ?_
                                refine z_iconst C 0 dL_law_602 (by decide) ?_
                                refine z_fwl C hR hL CL (wr := (zFr g mo to eo m332 t333 e334)) (wf := WX a g) (u0 := s337) (As := [.ref (a 0), .int 3, .int x321, .int x335, .int 0, .int 0]) (c_L_act l hst D a g ea A339 P340 s337 hS338 (3) x321 x335 (0) (0)) gL_law_L_act rfl ⟨by decide +kernel, by decide +kernel, (show (parseMethodDescriptor yL_act.desc).map (fun d => d.parameters.length) = some 6 from by decide +kernel)⟩ ⟨Nat.le_of_ble_eq_true rfl, Nat.le_of_ble_eq_true rfl⟩ ⟨by dsimp only [room_1]; omega, by dsimp only [room_1]; omega⟩ rfl (Nat.le_of_ble_eq_true rfl) dL_law_603 (fun r356 s357 hk => ?_)
                                refine z_widen (k := ((100 + 1852 + 1147 * (62 - (n67 + 1))) + 6)) (n := ((1000 + 11112 + 6882 * (62 - (n67 + 1))) + 36)) (by dsimp only; omega) (by dsimp only; omega) ?_
                                obtain ⟨A359, P360, er356, hS358⟩ := hk
                                have hw := hw r356 A359 P360 er356
                                refine z_iload C 0 dL_law_606 rfl ?_
                                refine z_i2l C dL_law_608 ?_
                                refine z_lcmp_ne C 617 dL_law_609 dL_law_610 (by decide) (fun hc => ?_) (fun hc => ?_)
                                · have hw := hw.1 hc
                                  refine z_iconst C 0 dL_law_617 (by decide) ?_
                                  refine z_sub (lv' := [(0, .ref b), (1, .ref (a 0)), (2, .ref mo), (3, .ref to), (4, .ref eo), (6, .int v32), (7, .int x44), (9, .int x58), (12, .int x321), (13, .int x335)]) [1, 2, 3, 4, 5, 6, 7, 8, 9, 0] rfl ?_
                                  exact hj344 _ _ _ _ _ _ s357 hS358 hw
                                · have hw := hw.2 hc
                                  refine z_iconst C 1 dL_law_613 (by decide) ?_
                                  refine z_goto C 618 dL_law_614 (by decide) ?_
                                  refine z_sub (lv' := [(0, .ref b), (1, .ref (a 0)), (2, .ref mo), (3, .ref to), (4, .ref eo), (6, .int v32), (7, .int x44), (9, .int x58), (12, .int x321), (13, .int x335)]) [1, 2, 3, 4, 5, 6, 7, 8, 9, 0] rfl ?_
                                  exact hj344 _ _ _ _ _ _ s357 hS358 hw
                            refine z_if_ne C 567 dL_law_560 (by decide) (fun hc => ?_) (fun hc => ?_)
                            · have hw := hw.1 hc
                              refine z_iconst C 0 dL_law_567 (by decide) ?_
                              refine z_sub (lv' := [(0, .ref b), (1, .ref (a 0)), (2, .ref mo), (3, .ref to), (4, .ref eo), (6, .int v32), (7, .int x44), (9, .int x58), (12, .int x321)]) [1, 2, 3, 4, 5, 7, 8, 10, 0] rfl ?_
                              exact hj326 _ _ _ _ _ _ s116 hS117 hw
                            · have hw := hw.2 hc
                              refine z_iconst C 1 dL_law_563 (by decide) ?_
                              refine z_goto C 568 dL_law_564 (by decide) ?_
                              refine z_sub (lv' := [(0, .ref b), (1, .ref (a 0)), (2, .ref mo), (3, .ref to), (4, .ref eo), (6, .int v32), (7, .int x44), (9, .int x58), (12, .int x321)]) [1, 2, 3, 4, 5, 7, 8, 10, 0] rfl ?_
                              exact hj326 _ _ _ _ _ _ s116 hS117 hw
                    refine z_icmp_ge C 525 dL_law_311 (by decide) (fun hc => ?_) (fun hc => ?_)
                    · have hw := hw.1 hc
                      exact hj115 _ _ _ _ _ s106 hS107 hw
                    · have hw := hw.2 hc
                      refine z_aload_n C 2 dL_law_314 rfl ?_
                      refine z_iconst C 0 dL_law_315 (by decide) ?_
                      obtain ⟨b361, hw⟩ := hw
                      refine z_iald C 0 0 rfl rfl b361 dL_law_316 ?_
                      refine z_iconst C 1 dL_law_317 (by decide) ?_
                      refine z_icmp_le C 525 dL_law_318 (by decide) (fun hc => ?_) (fun hc => ?_)
                      · have hw := hw.1 hc
                        exact hj115 _ _ _ _ _ s106 hS107 hw
                      · have hw := hw.2 hc
                        refine z_aload_n C 2 dL_law_321 rfl ?_
                        refine z_iconst C 1 dL_law_322 (by decide) ?_
                        obtain ⟨b362, hw⟩ := hw
                        refine z_iald C 0 0 rfl rfl b362 dL_law_323 ?_
                        refine z_bipush C 12 dL_law_324 (by decide) ?_
                        refine z_icmp_ge C 525 dL_law_326 (by decide) (fun hc => ?_) (fun hc => ?_)
                        · have hw := hw.1 hc
                          exact hj115 _ _ _ _ _ s106 hS107 hw
                        · have hw := hw.2 hc
                          refine z_iload C 10 dL_law_329 rfl ?_
                          refine z_iconst C 1 dL_law_331 (by decide) ?_
                          refine z_iadd C dL_law_332 ?_
                          refine z_iload C 11 dL_law_333 rfl ?_
                          refine z_aload_n C 2 dL_law_335 rfl ?_
                          refine z_iconst C 0 dL_law_336 (by decide) ?_
                          obtain ⟨b363, hw⟩ := hw
                          refine z_iald C 0 0 rfl rfl b363 dL_law_337 ?_
                          refine z_iconst C 1 dL_law_338 (by decide) ?_
                          refine z_isub C dL_law_339 ?_
                          obtain ⟨b364, hw⟩ := hw
                          refine z_irem C dL_law_340 b364 ?_
                          refine z_iadd C dL_law_341 ?_
                          refine z_aload_n C 2 dL_law_342 rfl ?_
                          refine z_iconst C 0 dL_law_343 (by decide) ?_
                          obtain ⟨b365, hw⟩ := hw
                          refine z_iald C 0 0 rfl rfl b365 dL_law_344 ?_
                          obtain ⟨b366, hw⟩ := hw
                          refine z_irem C dL_law_345 b366 ?_
                          refine z_topi (fun x367 ex367 => ?_)
                          have hw := hw x367 ex367
                          refine z_istore (lv' := [(12, .int x367), (0, .ref b), (1, .ref (a 0)), (2, .ref mo), (3, .ref to), (4, .ref eo), (5, .int v31), (6, .int v32), (7, .int x44), (8, .int x56), (9, .int x58), (10, .int x71), (11, .int x73)]) C dL_law_346 (by decide) rfl ?_
                          refine z_iload C 12 dL_law_348 rfl ?_
                          refine z_iconst C 5 dL_law_350 (by decide) ?_
                          obtain ⟨b368, hw⟩ := hw
                          refine z_idiv C dL_law_351 b368 ?_
                          refine z_iconst C 4 dL_law_352 (by decide) ?_
                          obtain ⟨b369, hw⟩ := hw
                          refine z_irem C dL_law_353 b369 ?_
                          obtain ⟨k370, hk371, hw⟩ := hw
                          have hj372 : ∀ (v373 : Int32) (A376 : zNt) (P377 : zPa) (m378 t379 e380 : Nat → Int32) (s374 : zS) (hS375 : ST A376 P377 s374), k370 v373 A376 P377 m378 t379 e380 → zV X D 18 ((100 + 1852 + 1147 * (62 - (n67 + 1))) + 0) ((1000 + 11112 + 6882 * (62 - (n67 + 1))) + 0) ((zFr g mo to eo m378 t379 e380) ++ WX a g s374) 386 [(0, .ref b), (1, .ref (a 0)), (2, .ref mo), (3, .ref to), (4, .ref eo), (6, .int v32), (7, .int x44), (9, .int x58), (10, .int x71), (11, .int x73), (12, .int x367)] [.int v373] := by
                            intro v373 A376 P377 m378 t379 e380 s374 hS375 hw0
                            have hw := hk371 v373 A376 P377 m378 t379 e380 hw0
                            refine z_topi (fun x381 ex381 => ?_)
                            have hw := hw x381 ex381
                            refine z_istore (lv' := [(13, .int x381), (0, .ref b), (1, .ref (a 0)), (2, .ref mo), (3, .ref to), (4, .ref eo), (6, .int v32), (7, .int x44), (9, .int x58), (10, .int x71), (11, .int x73), (12, .int x367)]) C dL_law_386 (by decide) rfl ?_
                            refine z_iconst C 5 dL_law_388 (by decide) ?_
                            refine z_aload_n C 3 dL_law_389 rfl ?_
                            refine z_iconst C 1 dL_law_390 (by decide) ?_
                            obtain ⟨b382, hw⟩ := hw
                            refine z_iald C 0 0 rfl rfl b382 dL_law_391 ?_
                            refine z_imul C dL_law_392 ?_
                            refine z_topi (fun x383 ex383 => ?_)
                            have hw := hw x383 ex383
                            refine z_istore (lv' := [(14, .int x383), (13, .int x381), (0, .ref b), (1, .ref (a 0)), (2, .ref mo), (3, .ref to), (4, .ref eo), (6, .int v32), (7, .int x44), (9, .int x58), (10, .int x71), (11, .int x73), (12, .int x367)]) C dL_law_393 (by decide) rfl ?_
                            refine z_aload_n C 3 dL_law_395 rfl ?_
                            refine z_fi C hR hL (wr := (zFr g mo to eo m378 t379 e380)) (wf := WX a g) (u0 := s374) (As := []) (c_X4_parts l D a g s374 _ (X_parts hS375)) gL_law_X4_parts rfl ⟨by decide +kernel, by decide +kernel, (show (parseMethodDescriptor yX4_parts.desc).map (fun d => d.parameters.length) = some 0 from by decide +kernel)⟩ ⟨Nat.le_of_ble_eq_true rfl, Nat.le_of_ble_eq_true rfl⟩ ⟨by dsimp only [room_1]; omega, by dsimp only [room_1]; omega⟩ 0 4 rfl rfl rfl rfl (Nat.le_of_ble_eq_true rfl) dL_law_396 (fun r384 s385 hk => ?_)
                            refine z_widen (k := ((100 + 1852 + 1147 * (62 - (n67 + 1))) + 0)) (n := ((1000 + 11112 + 6882 * (62 - (n67 + 1))) + 0)) (by dsimp only; omega) (by dsimp only; omega) ?_
                            obtain ⟨es385, er384⟩ := hk
                            have hS386 : ST A376 P377 s385 := es385 ▸ hS375
                            have hw := hw r384 er384
                            refine z_topi (fun x387 ex387 => ?_)
                            have hw := hw x387 ex387
                            refine z_istore (lv' := [(15, .int x387), (14, .int x383), (13, .int x381), (0, .ref b), (1, .ref (a 0)), (2, .ref mo), (3, .ref to), (4, .ref eo), (6, .int v32), (7, .int x44), (9, .int x58), (10, .int x71), (11, .int x73), (12, .int x367)]) C dL_law_399 (by decide) rfl ?_
                            refine z_aload_n C 4 dL_law_401 rfl ?_
                            refine z_iload C 11 dL_law_402 rfl ?_
                            obtain ⟨j391, hj392, ej393, hw⟩ := hw
                            refine z_xfl0 C hR hL CL (wr := (zFr g mo to eo m378 t379 e380)) (wf := WX a g) (u0 := s385) (As := [.int x71]) (c_X4_trees l hst D a g ea s385 x71 _ _ (X_trees hS386 x71)) gL_law_X4_trees rfl ⟨by decide +kernel, by decide +kernel, (show (parseMethodDescriptor yX4_trees.desc).map (fun d => d.parameters.length) = some 1 from by decide +kernel)⟩ ⟨Nat.le_of_ble_eq_true rfl, Nat.le_of_ble_eq_true rfl⟩ ⟨by dsimp only [room_1]; omega, by dsimp only [room_1]; omega⟩ 0 4 rfl rfl rfl rfl (Nat.le_of_ble_eq_true rfl) dL_law_404 (fun E u hx => oX_no (oSt_of (f := fun t => pT A376 t 14) (P := P377) hS386.1 hj392 ej393) hx) (fun r388 s389 hk => ?_)
                            refine z_widen (k := ((100 + 1852 + 1147 * (62 - (n67 + 1))) + 1)) (n := ((1000 + 11112 + 6882 * (62 - (n67 + 1))) + 6)) (by dsimp only; omega) (by dsimp only; omega) ?_
                            obtain ⟨er388, hS390⟩ := oX_l (oSt_of (f := fun t => pT A376 t 14) (P := P377) hS386.1 hj392 ej393) hk
                            have hw := hw r388 er388
                            refine z_topl (fun x394 ex394 => ?_)
                            have hw := hw x394 ex394
                            refine z_lstore (lv' := [(16, .long x394), (15, .int x387), (14, .int x383), (13, .int x381), (0, .ref b), (1, .ref (a 0)), (2, .ref mo), (3, .ref to), (4, .ref eo), (6, .int v32), (7, .int x44), (9, .int x58), (10, .int x71), (11, .int x73), (12, .int x367)]) C dL_law_407 (by decide) rfl ?_
                            refine z_aload C 8 dL_law_409 rfl ?_
                            refine z_iload C 2 dL_law_411 rfl ?_
                            refine z_iload C 12 dL_law_413 rfl ?_
                            obtain ⟨b395, hw⟩ := hw
                            obtain ⟨e396, ee396⟩ : ∃ z : Nat → Int32, z = upd e380 (ix x383) x71 := ⟨_, rfl⟩
                            have hw := hw e396 ee396
                            refine z_iast (ws' := ((zFr g mo to eo m378 t379 e396) ++ WX a g s389)) C 2 0 rfl rfl b395 dL_law_415 (by rw [ee396]; rfl) ?_
                            refine z_aload C 8 dL_law_416 rfl ?_
                            refine z_iload C 2 dL_law_418 rfl ?_
                            refine z_iconst C 1 dL_law_420 (by decide) ?_
                            refine z_iadd C dL_law_421 ?_
                            refine z_iload C 14 dL_law_422 rfl ?_
                            obtain ⟨b397, hw⟩ := hw
                            obtain ⟨e398, ee398⟩ : ∃ z : Nat → Int32, z = upd e396 (ix (x383 + 1)) x367 := ⟨_, rfl⟩
                            have hw := hw e398 ee398
                            refine z_iast (ws' := ((zFr g mo to eo m378 t379 e398) ++ WX a g s389)) C 2 0 rfl rfl b397 dL_law_424 (by rw [ee398]; rfl) ?_
                            refine z_aload C 8 dL_law_425 rfl ?_
                            refine z_iload C 2 dL_law_427 rfl ?_
                            refine z_iconst C 2 dL_law_429 (by decide) ?_
                            refine z_iadd C dL_law_430 ?_
                            refine z_iload C 3 dL_law_431 rfl ?_
                            obtain ⟨b399, hw⟩ := hw
                            obtain ⟨e400, ee400⟩ : ∃ z : Nat → Int32, z = upd e398 (ix (x383 + 2)) x381 := ⟨_, rfl⟩
                            have hw := hw e400 ee400
                            refine z_iast (ws' := ((zFr g mo to eo m378 t379 e400) ++ WX a g s389)) C 2 0 rfl rfl b399 dL_law_433 (by rw [ee400]; rfl) ?_
                            refine z_aload C 8 dL_law_434 rfl ?_
                            refine z_iload C 2 dL_law_436 rfl ?_
                            refine z_iconst C 3 dL_law_438 (by decide) ?_
                            refine z_iadd C dL_law_439 ?_
                            refine z_iconst C 1 dL_law_440 (by decide) ?_
                            refine z_iload C 13 dL_law_441 rfl ?_
                            refine z_bipush C 7 dL_law_443 (by decide) ?_
                            obtain ⟨b401, hw⟩ := hw
                            refine z_idiv C dL_law_445 b401 ?_
                            refine z_iconst C 5 dL_law_446 (by decide) ?_
                            obtain ⟨b402, hw⟩ := hw
                            refine z_irem C dL_law_447 b402 ?_
                            refine z_iadd C dL_law_448 ?_
                            obtain ⟨b403, hw⟩ := hw
                            obtain ⟨e404, ee404⟩ : ∃ z : Nat → Int32, z = upd e400 (ix (x383 + 3)) (1 + (irm (x73 / 7) 5)) := ⟨_, rfl⟩
                            have hw := hw e404 ee404
                            refine z_iast (ws' := ((zFr g mo to eo m378 t379 e404) ++ WX a g s389)) C 2 0 rfl rfl b403 dL_law_449 (by rw [ee404]; rfl) ?_
                            refine z_aload_n C 5 dL_law_450 rfl ?_
                            refine z_iconst C 2 dL_law_451 (by decide) ?_
                            refine z_iload C 12 dL_law_452 rfl ?_
                            refine z_iload C 14 dL_law_454 rfl ?_
                            refine z_iload C 3 dL_law_456 rfl ?_
                            refine z_aload C 8 dL_law_458 rfl ?_
                            refine z_iload C 2 dL_law_460 rfl ?_
                            refine z_iconst C 3 dL_law_462 (by decide) ?_
                            refine z_iadd C dL_law_463 ?_
                            obtain ⟨b405, hw⟩ := hw
                            refine z_iald C 2 0 rfl rfl b405 dL_law_464 ?_
                            refine z_fwl C hR hL CL (wr := (zFr g mo to eo m378 t379 e404)) (wf := WX a g) (u0 := s389) (As := [.ref (a 0), .int 2, .int x71, .int x367, .int x381, .int (e404 (ix (x383 + 3)))]) (c_L_act l hst D a g ea A376 P377 s389 hS390 (2) x71 x367 x381 (e404 (ix (x383 + 3)))) gL_law_L_act rfl ⟨by decide +kernel, by decide +kernel, (show (parseMethodDescriptor yL_act.desc).map (fun d => d.parameters.length) = some 6 from by decide +kernel)⟩ ⟨Nat.le_of_ble_eq_true rfl, Nat.le_of_ble_eq_true rfl⟩ ⟨by dsimp only [room_1]; omega, by dsimp only [room_1]; omega⟩ rfl (Nat.le_of_ble_eq_true rfl) dL_law_465 (fun r406 s407 hk => ?_)
                            refine z_widen (k := ((100 + 1852 + 1147 * (62 - (n67 + 1))) + 4)) (n := ((1000 + 11112 + 6882 * (62 - (n67 + 1))) + 24)) (by dsimp only; omega) (by dsimp only; omega) ?_
                            obtain ⟨A409, P410, er406, hS408⟩ := hk
                            have hw := hw r406 A409 P410 er406
                            refine z_aload_n C 6 dL_law_468 rfl ?_
                            refine z_iconst C 1 dL_law_469 (by decide) ?_
                            obtain ⟨b411, hw⟩ := hw
                            refine z_iald C 0 0 rfl rfl b411 dL_law_470 ?_
                            refine z_i2l C dL_law_471 ?_
                            obtain ⟨k412, hk413, hw⟩ := hw
                            have hj414 : ∀ (A417 : zNt) (P418 : zPa) (m419 t420 e421 : Nat → Int32) (s415 : zS) (hS416 : ST A417 P418 s415), k412 A417 P418 m419 t420 e421 → zV X D 18 ((100 + 1852 + 1147 * (62 - (n67 + 1))) + 5) ((1000 + 11112 + 6882 * (62 - (n67 + 1))) + 30) ((zFr g mo to eo m419 t420 e421) ++ WX a g s415) 512 [(0, .ref b), (1, .ref (a 0)), (2, .ref mo), (3, .ref to), (4, .ref eo), (6, .int v32), (7, .int x44), (9, .int x58)] [] := by
                              intro A417 P418 m419 t420 e421 s415 hS416 hw0
                              have hw := hk413 A417 P418 m419 t420 e421 hw0
                              refine z_iconst C 0 dL_law_512 (by decide) ?_
                              refine z_topi (fun x422 ex422 => ?_)
                              have hw := hw x422 ex422
                              refine z_istore (lv' := [(5, .int x422), (0, .ref b), (1, .ref (a 0)), (2, .ref mo), (3, .ref to), (4, .ref eo), (6, .int v32), (7, .int x44), (9, .int x58)]) C dL_law_513 (by decide) rfl ?_
                              refine z_aload_n C 3 dL_law_515 rfl ?_
                              refine z_iconst C 1 dL_law_516 (by decide) ?_
                              refine z_dup2 C dL_law_517 rfl rfl ?_
                              obtain ⟨b423, hw⟩ := hw
                              refine z_iald C 0 0 rfl rfl b423 dL_law_518 ?_
                              refine z_iconst C 1 dL_law_519 (by decide) ?_
                              refine z_iadd C dL_law_520 ?_
                              obtain ⟨b424, hw⟩ := hw
                              obtain ⟨m425, em425⟩ : ∃ z : Nat → Int32, z = upd m419 (ix 1) ((m419 (ix 1)) + 1) := ⟨_, rfl⟩
                              have hw := hw m425 em425
                              refine z_iast (ws' := ((zFr g mo to eo m425 t420 e421) ++ WX a g s415)) C 0 0 rfl rfl b424 dL_law_521 (by rw [em425]; rfl) ?_
                              refine z_goto C 992 dL_law_522 (by decide) ?_
                              refine z_sub (lv' := [(0, .ref b), (1, .ref (a 0)), (2, .ref mo), (3, .ref to), (4, .ref eo), (5, .int x422), (6, .int v32), (7, .int x44), (9, .int x58)]) [1, 2, 3, 4, 5, 0, 6, 7, 8] rfl ?_
                              refine z_widen (k := ((100 + 1852 + 1147 * (62 - (n67 + 1))) + 76)) (n := ((1000 + 11112 + 6882 * (62 - (n67 + 1))) + 456)) (by omega) (by omega) ?_
                              exact hj76 _ _ _ _ _ _ s415 hS416 hw
                            refine z_lcmp_ne C 512 dL_law_472 dL_law_473 (by decide) (fun hc => ?_) (fun hc => ?_)
                            · have hw := hw.1 hc
                              refine z_sub (lv' := [(0, .ref b), (1, .ref (a 0)), (2, .ref mo), (3, .ref to), (4, .ref eo), (6, .int v32), (7, .int x44), (9, .int x58)]) [4, 5, 6, 7, 8, 9, 10, 11] rfl ?_
                              refine z_widen (k := ((100 + 1852 + 1147 * (62 - (n67 + 1))) + 5)) (n := ((1000 + 11112 + 6882 * (62 - (n67 + 1))) + 30)) (by omega) (by omega) ?_
                              exact hj414 _ _ _ _ _ s407 hS408 hw
                            · have hw := hw.2 hc
                              refine z_aload_n C 5 dL_law_476 rfl ?_
                              refine z_fi C hR hL (wr := (zFr g mo to eo m378 t379 e404)) (wf := WX a g) (u0 := s407) (As := []) (c_X4_parts l D a g s407 _ (X_parts hS408)) gL_law_X4_parts rfl ⟨by decide +kernel, by decide +kernel, (show (parseMethodDescriptor yX4_parts.desc).map (fun d => d.parameters.length) = some 0 from by decide +kernel)⟩ ⟨Nat.le_of_ble_eq_true rfl, Nat.le_of_ble_eq_true rfl⟩ ⟨by dsimp only [room_1]; omega, by dsimp only [room_1]; omega⟩ 0 4 rfl rfl rfl rfl (Nat.le_of_ble_eq_true rfl) dL_law_477 (fun r426 s427 hk => ?_)
                              refine z_widen (k := ((100 + 1852 + 1147 * (62 - (n67 + 1))) + 4)) (n := ((1000 + 11112 + 6882 * (62 - (n67 + 1))) + 24)) (by dsimp only; omega) (by dsimp only; omega) ?_
                              obtain ⟨es427, er426⟩ := hk
                              have hS428 : ST A409 P410 s427 := es427 ▸ hS408
                              have hw := hw r426 er426
                              refine z_iload C 1 dL_law_480 rfl ?_
                              refine z_icmp_gt C 512 dL_law_482 (by decide) (fun hc => ?_) (fun hc => ?_)
                              · have hw := hw.1 hc
                                refine z_sub (lv' := [(0, .ref b), (1, .ref (a 0)), (2, .ref mo), (3, .ref to), (4, .ref eo), (6, .int v32), (7, .int x44), (9, .int x58)]) [4, 5, 6, 7, 8, 9, 10, 11] rfl ?_
                                refine z_widen (k := ((100 + 1852 + 1147 * (62 - (n67 + 1))) + 5)) (n := ((1000 + 11112 + 6882 * (62 - (n67 + 1))) + 30)) (by omega) (by omega) ?_
                                exact hj414 _ _ _ _ _ s427 hS428 hw
                              · have hw := hw.2 hc
                                refine z_aload_n C 5 dL_law_485 rfl ?_
                                refine z_fi C hR hL (wr := (zFr g mo to eo m378 t379 e404)) (wf := WX a g) (u0 := s427) (As := []) (c_X4_parts l D a g s427 _ (X_parts hS428)) gL_law_X4_parts rfl ⟨by decide +kernel, by decide +kernel, (show (parseMethodDescriptor yX4_parts.desc).map (fun d => d.parameters.length) = some 0 from by decide +kernel)⟩ ⟨Nat.le_of_ble_eq_true rfl, Nat.le_of_ble_eq_true rfl⟩ ⟨by dsimp only [room_1]; omega, by dsimp only [room_1]; omega⟩ 0 4 rfl rfl rfl rfl (Nat.le_of_ble_eq_true rfl) dL_law_486 (fun r429 s430 hk => ?_)
                                refine z_widen (k := ((100 + 1852 + 1147 * (62 - (n67 + 1))) + 4)) (n := ((1000 + 11112 + 6882 * (62 - (n67 + 1))) + 24)) (by dsimp only; omega) (by dsimp only; omega) ?_
                                obtain ⟨es430, er429⟩ := hk
                                have hS431 : ST A409 P410 s430 := es430 ▸ hS428
                                have hw := hw r429 er429
                                refine z_iload C 1 dL_law_489 rfl ?_
                                refine z_iconst C 1 dL_law_491 (by decide) ?_
                                refine z_isub C dL_law_492 ?_
                                refine z_icmp_lt C 512 dL_law_493 (by decide) (fun hc => ?_) (fun hc => ?_)
                                · have hw := hw.1 hc
                                  refine z_sub (lv' := [(0, .ref b), (1, .ref (a 0)), (2, .ref mo), (3, .ref to), (4, .ref eo), (6, .int v32), (7, .int x44), (9, .int x58)]) [4, 5, 6, 7, 8, 9, 10, 11] rfl ?_
                                  refine z_widen (k := ((100 + 1852 + 1147 * (62 - (n67 + 1))) + 5)) (n := ((1000 + 11112 + 6882 * (62 - (n67 + 1))) + 30)) (by omega) (by omega) ?_
                                  exact hj414 _ _ _ _ _ s430 hS431 hw
                                · have hw := hw.2 hc
                                  refine z_aload_n C 5 dL_law_496 rfl ?_
                                  refine z_iload C 12 dL_law_497 rfl ?_
                                  obtain ⟨j435, hj436, ej437, hw⟩ := hw
                                  refine z_xfl0 C hR hL CL (wr := (zFr g mo to eo m378 t379 e404)) (wf := WX a g) (u0 := s430) (As := [.int x71]) (c_X4_trees l hst D a g ea s430 x71 _ _ (X_trees hS431 x71)) gL_law_X4_trees rfl ⟨by decide +kernel, by decide +kernel, (show (parseMethodDescriptor yX4_trees.desc).map (fun d => d.parameters.length) = some 1 from by decide +kernel)⟩ ⟨Nat.le_of_ble_eq_true rfl, Nat.le_of_ble_eq_true rfl⟩ ⟨by dsimp only [room_1]; omega, by dsimp only [room_1]; omega⟩ 0 4 rfl rfl rfl rfl (Nat.le_of_ble_eq_true rfl) dL_law_499 (fun E u hx => oX_no (oSt_of (f := fun t => pT A409 t 14) (P := P410) hS431.1 hj436 ej437) hx) (fun r432 s433 hk => ?_)
                                  refine z_widen (k := ((100 + 1852 + 1147 * (62 - (n67 + 1))) + 5)) (n := ((1000 + 11112 + 6882 * (62 - (n67 + 1))) + 30)) (by dsimp only; omega) (by dsimp only; omega) ?_
                                  obtain ⟨er432, hS434⟩ := oX_l (oSt_of (f := fun t => pT A409 t 14) (P := P410) hS431.1 hj436 ej437) hk
                                  have hw := hw r432 er432
                                  refine z_lload C 0 dL_law_502 rfl ?_
                                  refine z_lcmp_lt C 512 dL_law_504 dL_law_505 (by decide) (fun hc => ?_) (fun hc => ?_)
                                  · have hw := hw.1 hc
                                    refine z_sub (lv' := [(0, .ref b), (1, .ref (a 0)), (2, .ref mo), (3, .ref to), (4, .ref eo), (6, .int v32), (7, .int x44), (9, .int x58)]) [4, 5, 6, 7, 8, 9, 10, 11] rfl ?_
                                    exact hj414 _ _ _ _ _ s433 hS434 hw
                                  · have hw := hw.2 hc
                                    refine z_iconst C 1 dL_law_508 (by decide) ?_
                                    refine z_goto C 513 dL_law_509 (by decide) ?_
                                    refine z_topi (fun x438 ex438 => ?_)
                                    have hw := hw x438 ex438
                                    refine z_istore (lv' := [(5, .int x438), (16, .long x394), (15, .int x387), (14, .int x383), (13, .int x381), (0, .ref b), (1, .ref (a 0)), (2, .ref mo), (3, .ref to), (4, .ref eo), (6, .int v32), (7, .int x44), (9, .int x58), (10, .int x71), (11, .int x73), (12, .int x367)]) C dL_law_513 (by decide) rfl ?_
                                    refine z_aload_n C 7 dL_law_515 rfl ?_
                                    refine z_iconst C 1 dL_law_516 (by decide) ?_
                                    refine z_dup2 C dL_law_517 rfl rfl ?_
                                    obtain ⟨b439, hw⟩ := hw
                                    refine z_iald C 0 0 rfl rfl b439 dL_law_518 ?_
                                    refine z_iconst C 1 dL_law_519 (by decide) ?_
                                    refine z_iadd C dL_law_520 ?_
                                    obtain ⟨b440, hw⟩ := hw
                                    obtain ⟨m441, em441⟩ : ∃ z : Nat → Int32, z = upd m378 (ix 1) ((m378 (ix 1)) + 1) := ⟨_, rfl⟩
                                    have hw := hw m441 em441
                                    refine z_iast (ws' := ((zFr g mo to eo m441 t379 e404) ++ WX a g s433)) C 0 0 rfl rfl b440 dL_law_521 (by rw [em441]; rfl) ?_
                                    refine z_goto C 992 dL_law_522 (by decide) ?_
                                    refine z_sub (lv' := [(0, .ref b), (1, .ref (a 0)), (2, .ref mo), (3, .ref to), (4, .ref eo), (5, .int x438), (6, .int v32), (7, .int x44), (9, .int x58)]) [5, 6, 7, 8, 9, 0, 10, 11, 12] rfl ?_
                                    refine z_widen (k := ((100 + 1852 + 1147 * (62 - (n67 + 1))) + 76)) (n := ((1000 + 11112 + 6882 * (62 - (n67 + 1))) + 456)) (by omega) (by omega) ?_
                                    exact hj76 _ _ _ _ _ _ s433 hS434 hw
                          refine z_if_ne C 373 dL_law_354 (by decide) (fun hc => ?_) (fun hc => ?_)
                          · have hw := hw.1 hc
                            refine z_iload C 12 dL_law_373 rfl ?_
                            refine z_bipush C 20 dL_law_375 (by decide) ?_
                            obtain ⟨b442, hw⟩ := hw
                            refine z_idiv C dL_law_377 b442 ?_
                            refine z_sipush C 300 dL_law_378 (by decide) ?_
                            obtain ⟨b443, hw⟩ := hw
                            refine z_irem C dL_law_381 b443 ?_
                            refine z_sipush C 150 dL_law_382 (by decide) ?_
                            refine z_isub C dL_law_385 ?_
                            refine z_sub (lv' := [(0, .ref b), (1, .ref (a 0)), (2, .ref mo), (3, .ref to), (4, .ref eo), (6, .int v32), (7, .int x44), (9, .int x58), (10, .int x71), (11, .int x73), (12, .int x367)]) [1, 2, 3, 4, 5, 7, 8, 10, 11, 12, 0] rfl ?_
                            exact hj372 _ _ _ _ _ _ s106 hS107 hw
                          · have hw := hw.2 hc
                            refine z_iload C 12 dL_law_357 rfl ?_
                            refine z_bipush C 20 dL_law_359 (by decide) ?_
                            obtain ⟨b444, hw⟩ := hw
                            refine z_idiv C dL_law_361 b444 ?_
                            refine z_sipush C 19999 dL_law_362 (by decide) ?_
                            obtain ⟨b445, hw⟩ := hw
                            refine z_irem C dL_law_365 b445 ?_
                            refine z_sipush C 9999 dL_law_366 (by decide) ?_
                            refine z_isub C dL_law_369 ?_
                            refine z_goto C 386 dL_law_370 (by decide) ?_
                            refine z_sub (lv' := [(0, .ref b), (1, .ref (a 0)), (2, .ref mo), (3, .ref to), (4, .ref eo), (6, .int v32), (7, .int x44), (9, .int x58), (10, .int x71), (11, .int x73), (12, .int x367)]) [1, 2, 3, 4, 5, 7, 8, 10, 11, 12, 0] rfl ?_
                            exact hj372 _ _ _ _ _ _ s106 hS107 hw
                  refine z_icmp_ne C 307 dL_law_219 (by decide) (fun hc => ?_) (fun hc => ?_)
                  · have hw := hw.1 hc
                    refine z_sub (lv' := [(0, .ref b), (1, .ref (a 0)), (2, .ref mo), (3, .ref to), (4, .ref eo), (5, .int v31), (6, .int v32), (7, .int x44), (8, .int x56), (9, .int x58), (10, .int x71), (11, .int x73)]) [2, 3, 4, 5, 6, 7, 8, 9, 10, 11, 1, 0] rfl ?_
                    exact hj105 _ _ _ _ _ s64 hS65 hw
                  · have hw := hw.2 hc
                    refine z_aload_n C 4 dL_law_222 rfl ?_
                    refine z_iconst C 0 dL_law_223 (by decide) ?_
                    obtain ⟨b446, hw⟩ := hw
                    refine z_iald C 0 0 rfl rfl b446 dL_law_224 ?_
                    refine z_if_le C 307 dL_law_225 (by decide) (fun hc => ?_) (fun hc => ?_)
                    · have hw := hw.1 hc
                      refine z_sub (lv' := [(0, .ref b), (1, .ref (a 0)), (2, .ref mo), (3, .ref to), (4, .ref eo), (5, .int v31), (6, .int v32), (7, .int x44), (8, .int x56), (9, .int x58), (10, .int x71), (11, .int x73)]) [2, 3, 4, 5, 6, 7, 8, 9, 10, 11, 1, 0] rfl ?_
                      exact hj105 _ _ _ _ _ s64 hS65 hw
                    · have hw := hw.2 hc
                      refine z_iload C 0 dL_law_228 rfl ?_
                      refine z_sipush C 19999 dL_law_230 (by decide) ?_
                      obtain ⟨b447, hw⟩ := hw
                      refine z_irem C dL_law_233 b447 ?_
                      refine z_sipush C 9999 dL_law_234 (by decide) ?_
                      refine z_isub C dL_law_237 ?_
                      refine z_topi (fun x448 ex448 => ?_)
                      have hw := hw x448 ex448
                      refine z_istore (lv' := [(12, .int x448), (11, .int x73), (10, .int x71), (0, .ref b), (1, .ref (a 0)), (2, .ref mo), (3, .ref to), (4, .ref eo), (5, .int v31), (6, .int v32), (7, .int x44), (8, .int x56), (9, .int x58)]) C dL_law_238 (by decide) rfl ?_
                      refine z_aload_n C 4 dL_law_240 rfl ?_
                      refine z_iconst C 1 dL_law_241 (by decide) ?_
                      refine z_iload C 2 dL_law_242 rfl ?_
                      refine z_iload C 0 dL_law_244 rfl ?_
                      refine z_iload C 1 dL_law_246 rfl ?_
                      refine z_iconst C 2 dL_law_248 (by decide) ?_
                      obtain ⟨b449, hw⟩ := hw
                      refine z_irem C dL_law_249 b449 ?_
                      refine z_iconst C 0 dL_law_250 (by decide) ?_
                      refine z_fwl C hR hL CL (wr := (zFr g mo to eo m68 t69 e70)) (wf := WX a g) (u0 := s64) (As := [.ref (a 0), .int 1, .int x71, .int x448, .int (irm x73 2), .int 0]) (c_L_act l hst D a g ea A66 P67 s64 hS65 (1) x71 x448 (irm x73 2) (0)) gL_law_L_act rfl ⟨by decide +kernel, by decide +kernel, (show (parseMethodDescriptor yL_act.desc).map (fun d => d.parameters.length) = some 6 from by decide +kernel)⟩ ⟨Nat.le_of_ble_eq_true rfl, Nat.le_of_ble_eq_true rfl⟩ ⟨by dsimp only [room_1]; omega, by dsimp only [room_1]; omega⟩ rfl (Nat.le_of_ble_eq_true rfl) dL_law_251 (fun r450 s451 hk => ?_)
                      refine z_widen (k := ((100 + 1852 + 1147 * (62 - (n67 + 1))) + 3)) (n := ((1000 + 11112 + 6882 * (62 - (n67 + 1))) + 18)) (by dsimp only; omega) (by dsimp only; omega) ?_
                      obtain ⟨A453, P454, er450, hS452⟩ := hk
                      have hw := hw r450 A453 P454 er450
                      refine z_aload_n C 6 dL_law_254 rfl ?_
                      refine z_iconst C 2 dL_law_255 (by decide) ?_
                      refine z_iload C 2 dL_law_256 rfl ?_
                      refine z_imul C dL_law_258 ?_
                      obtain ⟨b455, hw⟩ := hw
                      refine z_iald C 1 0 rfl rfl b455 dL_law_259 ?_
                      refine z_i2l C dL_law_260 ?_
                      obtain ⟨k456, hk457, hw⟩ := hw
                      have hj458 : ∀ (v459 : Int32) (A462 : zNt) (P463 : zPa) (m464 t465 e466 : Nat → Int32) (s460 : zS) (hS461 : ST A462 P463 s460), k456 v459 A462 P463 m464 t465 e466 → zV X D 18 ((100 + 1852 + 1147 * (62 - (n67 + 1))) + 3) ((1000 + 11112 + 6882 * (62 - (n67 + 1))) + 18) ((zFr g mo to eo m464 t465 e466) ++ WX a g s460) 270 [(0, .ref b), (1, .ref (a 0)), (2, .ref mo), (3, .ref to), (4, .ref eo), (6, .int v32), (7, .int x44), (9, .int x58), (10, .int x71), (11, .int x73), (12, .int x448)] [.int v459] := by
                        intro v459 A462 P463 m464 t465 e466 s460 hS461 hw0
                        have hw := hk457 v459 A462 P463 m464 t465 e466 hw0
                        refine z_topi (fun x467 ex467 => ?_)
                        have hw := hw x467 ex467
                        refine z_istore (lv' := [(5, .int x467), (0, .ref b), (1, .ref (a 0)), (2, .ref mo), (3, .ref to), (4, .ref eo), (6, .int v32), (7, .int x44), (9, .int x58), (10, .int x71), (11, .int x73), (12, .int x448)]) C dL_law_270 (by decide) rfl ?_
                        refine z_aload_n C 4 dL_law_272 rfl ?_
                        refine z_iconst C 2 dL_law_273 (by decide) ?_
                        refine z_iload C 9 dL_law_274 rfl ?_
                        refine z_imul C dL_law_276 ?_
                        refine z_iload C 10 dL_law_277 rfl ?_
                        refine z_iconst C 2 dL_law_279 (by decide) ?_
                        obtain ⟨b468, hw⟩ := hw
                        refine z_irem C dL_law_280 b468 ?_
                        obtain ⟨b469, hw⟩ := hw
                        obtain ⟨t470, et470⟩ : ∃ z : Nat → Int32, z = upd t465 (ix (2 * x71)) (irm x73 2) := ⟨_, rfl⟩
                        have hw := hw t470 et470
                        refine z_iast (ws' := ((zFr g mo to eo m464 t470 e466) ++ WX a g s460)) C 1 0 rfl rfl b469 dL_law_281 (by rw [et470]; rfl) ?_
                        refine z_aload_n C 4 dL_law_282 rfl ?_
                        refine z_iconst C 2 dL_law_283 (by decide) ?_
                        refine z_iload C 9 dL_law_284 rfl ?_
                        refine z_imul C dL_law_286 ?_
                        refine z_iconst C 1 dL_law_287 (by decide) ?_
                        refine z_iadd C dL_law_288 ?_
                        refine z_iload C 10 dL_law_289 rfl ?_
                        refine z_iconst C 2 dL_law_291 (by decide) ?_
                        obtain ⟨b471, hw⟩ := hw
                        refine z_irem C dL_law_292 b471 ?_
                        refine z_iconst C 1 dL_law_293 (by decide) ?_
                        refine z_icmp_ne C 302 dL_law_294 (by decide) (fun hc => ?_) (fun hc => ?_)
                        · have hw := hw.1 hc
                          refine z_iconst C 0 dL_law_302 (by decide) ?_
                          obtain ⟨b472, hw⟩ := hw
                          obtain ⟨t473, et473⟩ : ∃ z : Nat → Int32, z = upd t470 (ix ((2 * x71) + 1)) 0 := ⟨_, rfl⟩
                          have hw := hw t473 et473
                          refine z_iast (ws' := ((zFr g mo to eo m464 t473 e466) ++ WX a g s460)) C 1 0 rfl rfl b472 dL_law_303 (by rw [et473]; rfl) ?_
                          refine z_goto C 992 dL_law_304 (by decide) ?_
                          refine z_sub (lv' := [(0, .ref b), (1, .ref (a 0)), (2, .ref mo), (3, .ref to), (4, .ref eo), (5, .int x467), (6, .int v32), (7, .int x44), (9, .int x58)]) [1, 2, 3, 4, 5, 0, 6, 7, 8] rfl ?_
                          refine z_widen (k := ((100 + 1852 + 1147 * (62 - (n67 + 1))) + 76)) (n := ((1000 + 11112 + 6882 * (62 - (n67 + 1))) + 456)) (by omega) (by omega) ?_
                          exact hj76 _ _ _ _ _ _ s460 hS461 hw
                        · have hw := hw.2 hc
                          refine z_iload C 11 dL_law_297 rfl ?_
                          refine z_goto C 303 dL_law_299 (by decide) ?_
                          obtain ⟨b474, hw⟩ := hw
                          obtain ⟨t475, et475⟩ : ∃ z : Nat → Int32, z = upd t470 (ix ((2 * x71) + 1)) x448 := ⟨_, rfl⟩
                          have hw := hw t475 et475
                          refine z_iast (ws' := ((zFr g mo to eo m464 t475 e466) ++ WX a g s460)) C 1 0 rfl rfl b474 dL_law_303 (by rw [et475]; rfl) ?_
                          refine z_goto C 992 dL_law_304 (by decide) ?_
                          refine z_sub (lv' := [(0, .ref b), (1, .ref (a 0)), (2, .ref mo), (3, .ref to), (4, .ref eo), (5, .int x467), (6, .int v32), (7, .int x44), (9, .int x58)]) [1, 2, 3, 4, 5, 0, 6, 7, 8] rfl ?_
                          refine z_widen (k := ((100 + 1852 + 1147 * (62 - (n67 + 1))) + 76)) (n := ((1000 + 11112 + 6882 * (62 - (n67 + 1))) + 456)) (by omega) (by omega) ?_
                          exact hj76 _ _ _ _ _ _ s460 hS461 hw
                      refine z_lcmp_ne C 269 dL_law_261 dL_law_262 (by decide) (fun hc => ?_) (fun hc => ?_)
                      · have hw := hw.1 hc
                        refine z_iconst C 0 dL_law_269 (by decide) ?_
                        refine z_sub (lv' := [(0, .ref b), (1, .ref (a 0)), (2, .ref mo), (3, .ref to), (4, .ref eo), (6, .int v32), (7, .int x44), (9, .int x58), (10, .int x71), (11, .int x73), (12, .int x448)]) [3, 4, 5, 6, 7, 9, 10, 12, 2, 1, 0] rfl ?_
                        exact hj458 _ _ _ _ _ _ s451 hS452 hw
                      · have hw := hw.2 hc
                        refine z_iconst C 1 dL_law_265 (by decide) ?_
                        refine z_goto C 270 dL_law_266 (by decide) ?_
                        refine z_sub (lv' := [(0, .ref b), (1, .ref (a 0)), (2, .ref mo), (3, .ref to), (4, .ref eo), (6, .int v32), (7, .int x44), (9, .int x58), (10, .int x71), (11, .int x73), (12, .int x448)]) [3, 4, 5, 6, 7, 9, 10, 12, 2, 1, 0] rfl ?_
                        exact hj458 _ _ _ _ _ _ s451 hS452 hw
                · have hw := hw.2 hc
                  refine z_aload_n C 3 dL_law_153 rfl ?_
                  refine z_iconst C 0 dL_law_154 (by decide) ?_
                  refine z_iconst C 0 dL_law_155 (by decide) ?_
                  refine z_iconst C 0 dL_law_156 (by decide) ?_
                  refine z_iconst C 0 dL_law_157 (by decide) ?_
                  refine z_iconst C 0 dL_law_158 (by decide) ?_
                  refine z_fwl C hR hL CL (wr := (zFr g mo to eo m68 t69 e70)) (wf := WX a g) (u0 := s64) (As := [.ref (a 0), .int 0, .int 0, .int 0, .int 0, .int 0]) (c_L_act l hst D a g ea A66 P67 s64 hS65 (0) (0) (0) (0) (0)) gL_law_L_act rfl ⟨by decide +kernel, by decide +kernel, (show (parseMethodDescriptor yL_act.desc).map (fun d => d.parameters.length) = some 6 from by decide +kernel)⟩ ⟨Nat.le_of_ble_eq_true rfl, Nat.le_of_ble_eq_true rfl⟩ ⟨by dsimp only [room_1]; omega, by dsimp only [room_1]; omega⟩ rfl (Nat.le_of_ble_eq_true rfl) dL_law_159 (fun r476 s477 hk => ?_)
                  refine z_widen (k := ((100 + 1852 + 1147 * (62 - (n67 + 1))) + 3)) (n := ((1000 + 11112 + 6882 * (62 - (n67 + 1))) + 18)) (by dsimp only; omega) (by dsimp only; omega) ?_
                  obtain ⟨A479, P480, er476, hS478⟩ := hk
                  have hw := hw r476 A479 P480 er476
                  refine z_topl (fun x481 ex481 => ?_)
                  have hw := hw x481 ex481
                  refine z_lstore (lv' := [(12, .long x481), (11, .int x73), (10, .int x71), (0, .ref b), (1, .ref (a 0)), (2, .ref mo), (3, .ref to), (4, .ref eo), (5, .int v31), (6, .int v32), (7, .int x44), (8, .int x56), (9, .int x58)]) C dL_law_162 (by decide) rfl ?_
                  refine z_lload C 0 dL_law_164 rfl ?_
                  refine z_aload_n C 5 dL_law_166 rfl ?_
                  refine z_iconst C 0 dL_law_167 (by decide) ?_
                  obtain ⟨b482, hw⟩ := hw
                  refine z_iald C 0 0 rfl rfl b482 dL_law_168 ?_
                  refine z_bipush C 6 dL_law_169 (by decide) ?_
                  obtain ⟨k483, hk484, hw⟩ := hw
                  have hj485 : ∀ (v486 : Int64) (A489 : zNt) (P490 : zPa) (m491 t492 e493 : Nat → Int32) (s487 : zS) (hS488 : ST A489 P490 s487), k483 v486 A489 P490 m491 t492 e493 → zV X D 18 ((100 + 1852 + 1147 * (62 - (n67 + 1))) + 3) ((1000 + 11112 + 6882 * (62 - (n67 + 1))) + 18) ((zFr g mo to eo m491 t492 e493) ++ WX a g s487) 184 [(0, .ref b), (1, .ref (a 0)), (2, .ref mo), (3, .ref to), (4, .ref eo), (6, .int v32), (7, .int x44), (9, .int x58), (12, .long x481)] [.long v486, .long x481] := by
                    intro v486 A489 P490 m491 t492 e493 s487 hS488 hw0
                    have hw := hk484 v486 A489 P490 m491 t492 e493 hw0
                    obtain ⟨k494, hk495, hw⟩ := hw
                    have hj496 : ∀ (v497 : Int32) (A500 : zNt) (P501 : zPa) (m502 t503 e504 : Nat → Int32) (s498 : zS) (hS499 : ST A500 P501 s498), k494 v497 A500 P501 m502 t503 e504 → zV X D 18 ((100 + 1852 + 1147 * (62 - (n67 + 1))) + 3) ((1000 + 11112 + 6882 * (62 - (n67 + 1))) + 18) ((zFr g mo to eo m502 t503 e504) ++ WX a g s498) 193 [(0, .ref b), (1, .ref (a 0)), (2, .ref mo), (3, .ref to), (4, .ref eo), (6, .int v32), (7, .int x44), (9, .int x58), (12, .long x481)] [.int v497] := by
                      intro v497 A500 P501 m502 t503 e504 s498 hS499 hw0
                      have hw := hk495 v497 A500 P501 m502 t503 e504 hw0
                      refine z_topi (fun x505 ex505 => ?_)
                      have hw := hw x505 ex505
                      refine z_istore (lv' := [(5, .int x505), (0, .ref b), (1, .ref (a 0)), (2, .ref mo), (3, .ref to), (4, .ref eo), (6, .int v32), (7, .int x44), (9, .int x58), (12, .long x481)]) C dL_law_193 (by decide) rfl ?_
                      refine z_aload_n C 3 dL_law_195 rfl ?_
                      refine z_iconst C 0 dL_law_196 (by decide) ?_
                      refine z_dup2 C dL_law_197 rfl rfl ?_
                      obtain ⟨b506, hw⟩ := hw
                      refine z_iald C 0 0 rfl rfl b506 dL_law_198 ?_
                      refine z_lload C 9 dL_law_199 rfl ?_
                      refine z_lconst C 0 dL_law_201 (by decide) ?_
                      refine z_lcmp_ge C 210 dL_law_202 dL_law_203 (by decide) (fun hc => ?_) (fun hc => ?_)
                      · have hw := hw.1 hc
                        refine z_iconst C 1 dL_law_210 (by decide) ?_
                        refine z_iadd C dL_law_211 ?_
                        obtain ⟨b507, hw⟩ := hw
                        obtain ⟨m508, em508⟩ : ∃ z : Nat → Int32, z = upd m502 (ix 0) ((m502 (ix 0)) + 1) := ⟨_, rfl⟩
                        have hw := hw m508 em508
                        refine z_iast (ws' := ((zFr g mo to eo m508 t503 e504) ++ WX a g s498)) C 0 0 rfl rfl b507 dL_law_212 (by rw [em508]; rfl) ?_
                        refine z_goto C 992 dL_law_213 (by decide) ?_
                        refine z_sub (lv' := [(0, .ref b), (1, .ref (a 0)), (2, .ref mo), (3, .ref to), (4, .ref eo), (5, .int x505), (6, .int v32), (7, .int x44), (9, .int x58)]) [1, 2, 3, 4, 5, 0, 6, 7, 8] rfl ?_
                        refine z_widen (k := ((100 + 1852 + 1147 * (62 - (n67 + 1))) + 76)) (n := ((1000 + 11112 + 6882 * (62 - (n67 + 1))) + 456)) (by omega) (by omega) ?_
                        exact hj76 _ _ _ _ _ _ s498 hS499 hw
                      · have hw := hw.2 hc
                        refine z_iconst C 0 dL_law_206 (by decide) ?_
                        refine z_goto C 211 dL_law_207 (by decide) ?_
                        refine z_iadd C dL_law_211 ?_
                        obtain ⟨b509, hw⟩ := hw
                        obtain ⟨m510, em510⟩ : ∃ z : Nat → Int32, z = upd m502 (ix 0) ((m502 (ix 0)) + 0) := ⟨_, rfl⟩
                        have hw := hw m510 em510
                        refine z_iast (ws' := ((zFr g mo to eo m510 t503 e504) ++ WX a g s498)) C 0 0 rfl rfl b509 dL_law_212 (by rw [em510]; rfl) ?_
                        refine z_goto C 992 dL_law_213 (by decide) ?_
                        refine z_sub (lv' := [(0, .ref b), (1, .ref (a 0)), (2, .ref mo), (3, .ref to), (4, .ref eo), (5, .int x505), (6, .int v32), (7, .int x44), (9, .int x58)]) [1, 2, 3, 4, 5, 0, 6, 7, 8] rfl ?_
                        refine z_widen (k := ((100 + 1852 + 1147 * (62 - (n67 + 1))) + 76)) (n := ((1000 + 11112 + 6882 * (62 - (n67 + 1))) + 456)) (by omega) (by omega) ?_
                        exact hj76 _ _ _ _ _ _ s498 hS499 hw
                    refine z_lcmp_ne C 192 dL_law_184 dL_law_185 (by decide) (fun hc => ?_) (fun hc => ?_)
                    · have hw := hw.1 hc
                      refine z_iconst C 0 dL_law_192 (by decide) ?_
                      exact hj496 _ _ _ _ _ _ s487 hS488 hw
                    · have hw := hw.2 hc
                      refine z_iconst C 1 dL_law_188 (by decide) ?_
                      refine z_goto C 193 dL_law_189 (by decide) ?_
                      exact hj496 _ _ _ _ _ _ s487 hS488 hw
                  refine z_icmp_ne C 180 dL_law_171 (by decide) (fun hc => ?_) (fun hc => ?_)
                  · have hw := hw.1 hc
                    refine z_aload_n C 5 dL_law_180 rfl ?_
                    refine z_iconst C 0 dL_law_181 (by decide) ?_
                    obtain ⟨b511, hw⟩ := hw
                    refine z_iald C 0 0 rfl rfl b511 dL_law_182 ?_
                    refine z_i2l C dL_law_183 ?_
                    refine z_sub (lv' := [(0, .ref b), (1, .ref (a 0)), (2, .ref mo), (3, .ref to), (4, .ref eo), (6, .int v32), (7, .int x44), (9, .int x58), (12, .long x481)]) [3, 4, 5, 6, 7, 9, 10, 12, 0] rfl ?_
                    exact hj485 _ _ _ _ _ _ s477 hS478 hw
                  · have hw := hw.2 hc
                    refine z_ldc2 C (-161300000000000000) (List.mem_of_getElem? (i := 4) rfl) dL_law_174 ?_
                    refine z_goto C 184 dL_law_177 (by decide) ?_
                    refine z_sub (lv' := [(0, .ref b), (1, .ref (a 0)), (2, .ref mo), (3, .ref to), (4, .ref eo), (6, .int v32), (7, .int x44), (9, .int x58), (12, .long x481)]) [3, 4, 5, 6, 7, 9, 10, 12, 0] rfl ?_
                    exact hj485 _ _ _ _ _ _ s477 hS478 hw
              refine z_if_ne C 132 dL_law_125 (by decide) (fun hc => ?_) (fun hc => ?_)
              · have hw := hw.1 hc
                refine z_iload C 0 dL_law_132 rfl ?_
                refine z_aload_n C 4 dL_law_134 rfl ?_
                refine z_iconst C 0 dL_law_135 (by decide) ?_
                obtain ⟨b512, hw⟩ := hw
                refine z_iald C 0 0 rfl rfl b512 dL_law_136 ?_
                obtain ⟨b513, hw⟩ := hw
                refine z_irem C dL_law_137 b513 ?_
                refine z_sub (lv' := [(0, .ref b), (1, .ref (a 0)), (2, .ref mo), (3, .ref to), (4, .ref eo), (5, .int v31), (6, .int v32), (7, .int x44), (8, .int x56), (9, .int x58)]) [2, 3, 4, 5, 6, 7, 8, 9, 1, 0] rfl ?_
                exact hj62 _ _ _ _ _ _ s49 hS50 hw
              · have hw := hw.2 hc
                refine z_iconst C 0 dL_law_128 (by decide) ?_
                refine z_goto C 138 dL_law_129 (by decide) ?_
                refine z_sub (lv' := [(0, .ref b), (1, .ref (a 0)), (2, .ref mo), (3, .ref to), (4, .ref eo), (5, .int v31), (6, .int v32), (7, .int x44), (8, .int x56), (9, .int x58)]) [2, 3, 4, 5, 6, 7, 8, 9, 1, 0] rfl ?_
                exact hj62 _ _ _ _ _ _ s49 hS50 hw
            refine z_icmp_ge C 97 dL_law_90 (by decide) (fun hc => ?_) (fun hc => ?_)
            · have hw := hw.1 hc
              refine z_iload C 7 dL_law_97 rfl ?_
              refine z_bipush C 9 dL_law_99 (by decide) ?_
              refine z_icmp_ge C 108 dL_law_101 (by decide) (fun hc => ?_) (fun hc => ?_)
              · have hw := hw.1 hc
                refine z_iload C 0 dL_law_108 rfl ?_
                refine z_bipush C 26 dL_law_110 (by decide) ?_
                obtain ⟨b514, hw⟩ := hw
                refine z_irem C dL_law_112 b514 ?_
                refine z_sub (lv' := [(0, .ref b), (1, .ref (a 0)), (2, .ref mo), (3, .ref to), (4, .ref eo), (5, .int v31), (6, .int v32), (7, .int x44)]) [1, 2, 3, 4, 5, 6, 7, 0] rfl ?_
                exact hj47 _ _ _ _ _ _ s41 hS42 hw
              · have hw := hw.2 hc
                refine z_iconst C 3 dL_law_104 (by decide) ?_
                refine z_goto C 113 dL_law_105 (by decide) ?_
                refine z_sub (lv' := [(0, .ref b), (1, .ref (a 0)), (2, .ref mo), (3, .ref to), (4, .ref eo), (5, .int v31), (6, .int v32), (7, .int x44)]) [1, 2, 3, 4, 5, 6, 7, 0] rfl ?_
                exact hj47 _ _ _ _ _ _ s41 hS42 hw
            · have hw := hw.2 hc
              refine z_iconst C 0 dL_law_93 (by decide) ?_
              refine z_goto C 113 dL_law_94 (by decide) ?_
              refine z_sub (lv' := [(0, .ref b), (1, .ref (a 0)), (2, .ref mo), (3, .ref to), (4, .ref eo), (5, .int v31), (6, .int v32), (7, .int x44)]) [1, 2, 3, 4, 5, 6, 7, 0] rfl ?_
              exact hj47 _ _ _ _ _ _ s41 hS42 hw
    refine z_widen (k := (100 + 1852 + 1147 * (62 - n18)) + 0) (n := (1000 + 11112 + 6882 * (62 - n18)) + 0) (by omega) (by omega) ?_
    exact lp22 n18 hn19 _ _ _ _ _ _ _ s8 hS9 hw
  refine z_if_eq C 61 dL_law_31 (by decide) (fun hc => ?_) (fun hc => ?_)
  · have hw := hw.1 hc
    refine z_iconst C 0 dL_law_61 (by decide) ?_
    refine z_widen (k := (100 + 1852)) (n := (1000 + 11112)) (by omega) (by omega) ?_
    exact hj6 _ _ _ _ _ _ s2 hS3 hw
  · have hw := hw.2 hc
    refine z_aload_n C 1 dL_law_34 rfl ?_
    refine z_aload_n C 2 dL_law_35 rfl ?_
    refine z_aload C 4 dL_law_36 rfl ?_
    refine z_iconst C 1 dL_law_38 (by decide) ?_
    refine z_cui C hR hL CL (wf := fun q => (zFr g mo to eo m t e) ++ WX a g q) (u0 := s2) (As := [.ref (a 0), .ref mo, .ref eo, .int 1]) (c_L_isRefused l hst D a g ea mo to eo A P m t e (1) s2 hS3 _ hw) gL_law_L_isRefused rfl ⟨by decide +kernel, by decide +kernel, (show (parseMethodDescriptor yL_isRefused.desc).map (fun d => d.parameters.length) = some 4 from by decide +kernel)⟩ ⟨Nat.le_of_ble_eq_true rfl, Nat.le_of_ble_eq_true rfl⟩ ⟨by dsimp only [room_1]; omega, by dsimp only [room_1]; omega⟩ rfl (Nat.le_of_ble_eq_true rfl) dL_law_39 (fun r515 s516 hk => ?_)
    refine z_widen (k := (100 + 1562)) (n := (1000 + 9372)) (by dsimp only; omega) (by dsimp only; omega) ?_
    obtain ⟨hw, hS517⟩ := hk
    refine z_if_eq C 61 dL_law_42 (by decide) (fun hc => ?_) (fun hc => ?_)
    · have hw := hw.1 hc
      refine z_iconst C 0 dL_law_61 (by decide) ?_
      refine z_widen (k := (100 + 1852)) (n := (1000 + 11112)) (by omega) (by omega) ?_
      exact hj6 _ _ _ _ _ _ s516 hS517 hw
    · have hw := hw.2 hc
      refine z_aload_n C 1 dL_law_45 rfl ?_
      refine z_aload_n C 2 dL_law_46 rfl ?_
      refine z_aload_n C 3 dL_law_47 rfl ?_
      refine z_aload C 4 dL_law_48 rfl ?_
      refine z_iconst C 0 dL_law_50 (by decide) ?_
      refine z_cui C hR hL CL (wf := fun q => (zFr g mo to eo m t e) ++ WX a g q) (u0 := s516) (As := [.ref (a 0), .ref mo, .ref to, .ref eo, .int 0]) (c_L_areSound l hst D a g ea mo to eo A P m t e (0) s516 hS517 _ hw) gL_law_L_areSound rfl ⟨by decide +kernel, by decide +kernel, (show (parseMethodDescriptor yL_areSound.desc).map (fun d => d.parameters.length) = some 5 from by decide +kernel)⟩ ⟨Nat.le_of_ble_eq_true rfl, Nat.le_of_ble_eq_true rfl⟩ ⟨by dsimp only [room_1]; omega, by dsimp only [room_1]; omega⟩ rfl (Nat.le_of_ble_eq_true rfl) dL_law_51 (fun r518 s519 hk => ?_)
      refine z_widen (k := (100 + 1852)) (n := (1000 + 11112)) (by dsimp only; omega) (by dsimp only; omega) ?_
      obtain ⟨hw, hS520⟩ := hk
      refine z_if_eq C 61 dL_law_54 (by decide) (fun hc => ?_) (fun hc => ?_)
      · have hw := hw.1 hc
        refine z_iconst C 0 dL_law_61 (by decide) ?_
        exact hj6 _ _ _ _ _ _ s519 hS520 hw
      · have hw := hw.2 hc
        refine z_iconst C 1 dL_law_57 (by decide) ?_
        refine z_goto C 62 dL_law_58 (by decide) ?_
        exact hj6 _ _ _ _ _ _ s519 hS520 hw

def W_L_areSound_L343 (A : zNt) (P : zPa) (m t e : Nat → Int32) (p0 : Int32) (x15 : Int32) (x40 : Int32) (x47 : Int64) (Q : Int32 → Prop) (K : Int32 → Int32 → Int64 → Prop) : Nat → Int32 → Int32 → Int64 → Int32 → Prop
  | 0, _, _, _, _ => False
  | n + 1, v71, v72, v73, v74 =>
    vp_in 1 4 ∧
    ((m (ix 1)) ≤ v74 →
    K v71 v72 v73) ∧ (¬ (m (ix 1)) ≤ v74 →
    (v71 = 0 →
    K v71 v72 v73) ∧ (¬ v71 = 0 →
    vp_in ((5 * v74) + 4) 64 ∧
    (¬ (e (ix ((5 * v74) + 4))) = 0 →
    ∀ x79 : Int32, x79 = v74 + 1 →
    W_L_areSound_L343 A P m t e p0 x15 x40 x47 Q K n v71 v72 v73 x79) ∧ ((e (ix ((5 * v74) + 4))) = 0 →
    ∃ o83 : Nat, o83 < nko A ∧ v74 = nI o83 ∧ nwd A o83 = false ∧
    ∀ r80 : Int64, r80 = lI (aRes A o83) →
    ∀ x87 : Int64, x87 = r80 →
    vp_in ((5 * v74) + 1) 64 ∧
    ∃ j92 : Nat, j92 < nnn A ∧ (e (ix ((5 * v74) + 1))) = nI j92 ∧
    ∀ r89 : Int64, r89 = lI (aHgt A j92) →
    vp_in (5 * v74) 64 ∧
    ∃ j99 : Nat, j99 < nnn A ∧ (e (ix (5 * v74))) = nI j99 ∧
    ∀ r96 : Int64, r96 = lI (aHgt A j99) →
    vp_in ((5 * v74) + 2) 64 ∧
    ∀ x103 : Int64, x103 = ((r89 - r96) - (100 * ((e (ix ((5 * v74) + 2)))).toInt64)) →
    ∃ o107 : Nat, o107 < nko A ∧ v74 = nI o107 ∧ nwd A o107 = false ∧
    ∀ r104 : Int32, r104 = iI (aChk A o107) →
    ∀ x111 : Int32, x111 = r104 →
    ∃ o115 : Nat, o115 < nko A ∧ v74 = nI o115 ∧ nwd A o115 = false ∧
    ∀ r112 : Int64, r112 = lI (aScr A o115) →
    ∀ x119 : Int64, x119 = r112 →
    ∀ x120 : Int32, x120 = v72 + 1 →
    ∀ x121 : Int64, x121 = (v73 + (x111).toInt64) →
    (x87 < (x103 - 1) →
    ∀ x122 : Int32, x122 = 0 →
    ∀ x123 : Int32, x123 = v74 + 1 →
    W_L_areSound_L343 A P m t e p0 x15 x40 x47 Q K n x122 x120 x121 x123) ∧ (¬ x87 < (x103 - 1) →
    ((x103 + 1) < x87 →
    ∀ x124 : Int32, x124 = 0 →
    ∀ x125 : Int32, x125 = v74 + 1 →
    W_L_areSound_L343 A P m t e p0 x15 x40 x47 Q K n x124 x120 x121 x125) ∧ (¬ (x103 + 1) < x87 →
    (x111 < 0 →
    ∀ x126 : Int32, x126 = 0 →
    ∀ x127 : Int32, x127 = v74 + 1 →
    W_L_areSound_L343 A P m t e p0 x15 x40 x47 Q K n x126 x120 x121 x127) ∧ (¬ x111 < 0 →
    (1000 ≤ x111 →
    ∀ x128 : Int32, x128 = 0 →
    ∀ x129 : Int32, x129 = v74 + 1 →
    W_L_areSound_L343 A P m t e p0 x15 x40 x47 Q K n x128 x120 x121 x129) ∧ (¬ 1000 ≤ x111 →
    (x119 < 0 →
    ∀ x130 : Int32, x130 = 0 →
    ∀ x131 : Int32, x131 = v74 + 1 →
    W_L_areSound_L343 A P m t e p0 x15 x40 x47 Q K n x130 x120 x121 x131) ∧ (¬ x119 < 0 →
    (x47 < x119 →
    ∀ x132 : Int32, x132 = 0 →
    ∀ x133 : Int32, x133 = v74 + 1 →
    W_L_areSound_L343 A P m t e p0 x15 x40 x47 Q K n x132 x120 x121 x133) ∧ (¬ x47 < x119 →
    ∃ k134 : Prop, (k134  →
    ∃ k139 : Prop, (k139  →
    vp_in 1 4 ∧
    ¬ ((m (ix 1)) : Int32) = 0 ∧
    ∃ k146 : Prop, (k146  →
    vp_in (5 * v74) 64 ∧
    ∃ j155 : Nat, j155 < nnn A ∧ (e (ix (5 * v74))) = nI j155 ∧
    ∀ r152 : Int64, r152 = lI (pT A j155 14) →
    vp_in ((5 * v74) + 1) 64 ∧
    ∃ j162 : Nat, j162 < nnn A ∧ (e (ix ((5 * v74) + 1))) = nI j162 ∧
    ∀ r159 : Int64, r159 = lI (pT A j162 14) →
    (¬ r152 = r159 →
    ∀ x165 : Int32, x165 = 0 →
    ∀ x166 : Int32, x166 = v74 + 1 →
    W_L_areSound_L343 A P m t e p0 x15 x40 x47 Q K n x165 x120 x121 x166) ∧ (r152 = r159 →
    ∀ x167 : Int32, x167 = 1 →
    ∀ x168 : Int32, x168 = v74 + 1 →
    W_L_areSound_L343 A P m t e p0 x15 x40 x47 Q K n x167 x120 x121 x168)) ∧ ((¬ v74 = (irm p0 (m (ix 1))) →
    k146 ) ∧ (v74 = (irm p0 (m (ix 1))) →
    vp_in 1 4 ∧
    (8 < (m (ix 1)) →
    k146 ) ∧ (¬ 8 < (m (ix 1)) →
    ∃ o173 : Nat, o173 < nko A ∧ v74 = nI o173 ∧ nwd A o173 = false ∧
    ∀ r170 : Int32, r170 = iI (aChk A o173) →
    (¬ r170 = x111 →
    ∀ x177 : Int32, x177 = 0 →
    ∀ x178 : Int32, x178 = v74 + 1 →
    W_L_areSound_L343 A P m t e p0 x15 x40 x47 Q K n x177 x120 x121 x178) ∧ (r170 = x111 →
    k146 ))))) ∧ ((0 < x111 →
    k139 ) ∧ (¬ 0 < x111 →
    (¬ x119 = 0 →
    ∀ x179 : Int32, x179 = 0 →
    ∀ x180 : Int32, x180 = v74 + 1 →
    W_L_areSound_L343 A P m t e p0 x15 x40 x47 Q K n x179 x120 x121 x180) ∧ (x119 = 0 →
    (¬ x87 = 0 →
    ∀ x181 : Int32, x181 = 0 →
    ∀ x182 : Int32, x182 = v74 + 1 →
    W_L_areSound_L343 A P m t e p0 x15 x40 x47 Q K n x181 x120 x121 x182) ∧ (x87 = 0 →
    k139 ))))) ∧ ((x119 < x47 →
    k134 ) ∧ (¬ x119 < x47 →
    (v74 < x40 →
    ∀ x183 : Int32, x183 = 0 →
    ∀ x184 : Int32, x184 = v74 + 1 →
    W_L_areSound_L343 A P m t e p0 x15 x40 x47 Q K n x183 x120 x121 x184) ∧ (¬ v74 < x40 →
    k134 ))))))))))))
def W_L_areSound_L73 (A : zNt) (P : zPa) (m t e : Nat → Int32) (p0 : Int32) (x15 : Int32) (x16 : Int32) (x212 : Int64) (x18 : Int64) (v195 : Int32) (x205 : Int64) (Q : Int32 → Prop) (K : Int32 → Prop) : Nat → Int32 → Int32 → Prop
  | 0, _, _ => False
  | n + 1, v278, v279 =>
    vp_in 1 4 ∧
    ((m (ix 1)) ≤ v279 →
    K v278) ∧ (¬ (m (ix 1)) ≤ v279 →
    vp_in (5 * v279) 64 ∧
    ∃ k284 : Int32 → Prop, (∀ (v287 : Int32), k284 v287 →
    ∀ x290 : Int32, x290 = v287 →
    (v278 = 0 →
    ∀ x291 : Int32, x291 = 0 →
    ∀ x292 : Int32, x292 = v279 + 1 →
    W_L_areSound_L73 A P m t e p0 x15 x16 x212 x18 v195 x205 Q K n x291 x292) ∧ (¬ v278 = 0 →
    vp_in ((5 * v279) + 4) 64 ∧
    ((e (ix ((5 * v279) + 4))) = 1 →
    ∀ x294 : Int32, x294 = 1 →
    ∀ x295 : Int32, x295 = v279 + 1 →
    W_L_areSound_L73 A P m t e p0 x15 x16 x212 x18 v195 x205 Q K n x294 x295) ∧ (¬ (e (ix ((5 * v279) + 4))) = 1 →
    (¬ x290 = v195 →
    ∀ x296 : Int32, x296 = 0 →
    ∀ x297 : Int32, x297 = v279 + 1 →
    W_L_areSound_L73 A P m t e p0 x15 x16 x212 x18 v195 x205 Q K n x296 x297) ∧ (x290 = v195 →
    ∀ x298 : Int32, x298 = 1 →
    ∀ x299 : Int32, x299 = v279 + 1 →
    W_L_areSound_L73 A P m t e p0 x15 x16 x212 x18 v195 x205 Q K n x298 x299)))) ∧ ((¬ (e (ix (5 * v279))) = v195 →
    vp_in ((5 * v279) + 1) 64 ∧
    (¬ (e (ix ((5 * v279) + 1))) = v195 →
    k284 v195) ∧ ((e (ix ((5 * v279) + 1))) = v195 →
    vp_in (5 * v279) 64 ∧
    k284 (e (ix (5 * v279))))) ∧ ((e (ix (5 * v279))) = v195 →
    vp_in ((5 * v279) + 1) 64 ∧
    k284 (e (ix ((5 * v279) + 1))))))
def W_L_areSound_L35 (A : zNt) (P : zPa) (m t e : Nat → Int32) (p0 : Int32) (x15 : Int32) (x16 : Int32) (x18 : Int64) (Q : Int32 → Prop) (K : Int32 → Int64 → Prop) : Nat → Int32 → Int64 → Int32 → Prop
  | 0, _, _, _ => False
  | n + 1, v193, v194, v195 =>
    vp_in 0 4 ∧
    ((m (ix 0)) ≤ v195 →
    K v193 v194) ∧ (¬ (m (ix 0)) ≤ v195 →
    (v193 = 0 →
    K v193 v194) ∧ (¬ v193 = 0 →
    ∃ j202 : Nat, j202 < nnn A ∧ v195 = nI j202 ∧
    ∀ r199 : Int64, r199 = lI (aHgt A j202) →
    ∀ x205 : Int64, x205 = r199 →
    ∃ j209 : Nat, j209 < nnn A ∧ v195 = nI j209 ∧
    ∀ r206 : Int64, r206 = lI (aFre A j209) →
    ∀ x212 : Int64, x212 = (v194 + r206) →
    ∀ x213 : Int32, x213 = 1 →
    ∀ x214 : Int32, x214 = 0 →
    ∃ (K215 : Int32 → Prop) (n216 : Nat), n216 ≤ 16 ∧ (∀ (v221 : Int32), K215 v221 →
    ∃ j227 : Nat, j227 < nnn A ∧ v195 = nI j227 ∧
    ∀ r224 : Int64, r224 = lI (pT A j227 14) →
    (r224 ≤ 0 →
    ∀ x230 : Int32, x230 = 0 →
    ∀ x231 : Int32, x231 = v195 + 1 →
    W_L_areSound_L35 A P m t e p0 x15 x16 x18 Q K n x230 x212 x231) ∧ (¬ r224 ≤ 0 →
    ∃ k232 : Prop, (k232  →
    vp_in 0 4 ∧
    ¬ ((m (ix 0)) : Int32) = 0 ∧
    ∃ k239 : Prop, (k239  →
    (x205 < (-6000000) →
    ∀ x244 : Int32, x244 = 0 →
    ∀ x245 : Int32, x245 = v195 + 1 →
    W_L_areSound_L35 A P m t e p0 x15 x16 x18 Q K n x244 x212 x245) ∧ (¬ x205 < (-6000000) →
    (6000000 < x205 →
    ∀ x246 : Int32, x246 = 0 →
    ∀ x247 : Int32, x247 = v195 + 1 →
    W_L_areSound_L35 A P m t e p0 x15 x16 x18 Q K n x246 x212 x247) ∧ (¬ 6000000 < x205 →
    ∀ x248 : Int32, x248 = 1 →
    ∀ x249 : Int32, x249 = v195 + 1 →
    W_L_areSound_L35 A P m t e p0 x15 x16 x18 Q K n x248 x212 x249))) ∧ ((¬ v195 = (irm p0 (m (ix 0))) →
    k239 ) ∧ (v195 = (irm p0 (m (ix 0))) →
    vp_in 1 4 ∧
    (8 < (m (ix 1)) →
    k239 ) ∧ (¬ 8 < (m (ix 1)) →
    ∃ j254 : Nat, j254 < nnn A ∧ v195 = nI j254 ∧
    ∀ r251 : Int64, r251 = lI (aHgt A j254) →
    (¬ r251 = x205 →
    ∀ x257 : Int32, x257 = 0 →
    ∀ x258 : Int32, x258 = v195 + 1 →
    W_L_areSound_L35 A P m t e p0 x15 x16 x18 Q K n x257 x212 x258) ∧ (r251 = x205 →
    k239 ))))) ∧ ((v221 = 0 →
    k232 ) ∧ (¬ v221 = 0 →
    vp_in ((2 * v195) + 1) 12 ∧
    (¬ x205 = (100 * ((t (ix ((2 * v195) + 1)))).toInt64) →
    ∀ x260 : Int32, x260 = 0 →
    ∀ x261 : Int32, x261 = v195 + 1 →
    W_L_areSound_L35 A P m t e p0 x15 x16 x18 Q K n x260 x212 x261) ∧ (x205 = (100 * ((t (ix ((2 * v195) + 1)))).toInt64) →
    ∃ j265 : Nat, j265 < nnn A ∧ v195 = nI j265 ∧
    ∀ r262 : Int64, r262 = lI (pT A j265 14) →
    (¬ r262 = 1 →
    ∀ x268 : Int32, x268 = 0 →
    ∀ x269 : Int32, x269 = v195 + 1 →
    W_L_areSound_L35 A P m t e p0 x15 x16 x18 Q K n x268 x212 x269) ∧ (r262 = 1 →
    ∃ j273 : Nat, j273 < nnn A ∧ v195 = nI j273 ∧
    ∀ r270 : Int64, r270 = lI (aFre A j273) →
    (¬ r270 = 0 →
    ∀ x276 : Int32, x276 = 0 →
    ∀ x277 : Int32, x277 = v195 + 1 →
    W_L_areSound_L35 A P m t e p0 x15 x16 x18 Q K n x276 x212 x277) ∧ (r270 = 0 →
    k232 ))))))) ∧ W_L_areSound_L73 A P m t e p0 x15 x16 x212 x18 v195 x205 Q K215 n216 x213 x214))
def W_L_areSound (A : zNt) (P : zPa) (m t e : Nat → Int32) (p0 : Int32) (Q : Int32 → Prop) : Prop :=
    ∀ r1 : Int32, r1 = P.2.2.2 →
    vp_in 3 4 ∧
    ∃ k5 : Int32 → Prop, (∀ (v8 : Int32), k5 v8 →
    ∀ x11 : Int32, x11 = v8 →
    ∀ r12 : Int32, r12 = nI (nprt A) →
    ∀ x15 : Int32, x15 = r12 →
    ∀ x16 : Int32, x16 = 0 →
    ∀ x17 : Int64, x17 = 0 →
    ∀ x18 : Int64, x18 = 0 →
    ∀ x19 : Int32, x19 = 0 →
    ∃ (K20 : Int32 → Int64 → Prop) (n21 : Nat), n21 ≤ 16 ∧ (∀ (v26 : Int32) (v27 : Int64), K20 v26 v27 →
    ∃ k30 : Int32 → Prop, (∀ (v33 : Int32), k30 v33 →
    ∀ x36 : Int32, x36 = v33 →
    ∀ r37 : Int32, r37 = iI (aWst A (nko A)).1 →
    ∀ x40 : Int32, x40 = r37 →
    ∃ k41 : Int64 → Prop, (∀ (v44 : Int64), k41 v44 →
    ∀ x47 : Int64, x47 = v44 →
    ∀ x48 : Int32, x48 = 0 →
    ∃ (K49 : Int32 → Int32 → Int64 → Prop) (n50 : Nat), n50 ≤ 16 ∧ (∀ (v55 : Int32) (v56 : Int32) (v57 : Int64), K49 v55 v56 v57 →
    vp_in 0 4 ∧
    ∀ x61 : Int64, x61 = (1000 * (((v56 - (m (ix 0))) + x15)).toInt64) →
    (v55 = 0 →
    narrow .boolean (.int 0) = .int 0 ∧ Q 0) ∧ (¬ v55 = 0 →
    (x15 < 0 →
    narrow .boolean (.int 0) = .int 0 ∧ Q 0) ∧ (¬ x15 < 0 →
    vp_in 0 4 ∧
    ((m (ix 0)) < x15 →
    narrow .boolean (.int 0) = .int 0 ∧ Q 0) ∧ (¬ (m (ix 0)) < x15 →
    (x61 < v57 →
    narrow .boolean (.int 0) = .int 0 ∧ Q 0) ∧ (¬ x61 < v57 →
    (v57 ≤ ((x61 - (v56).toInt64) - 1) →
    narrow .boolean (.int 0) = .int 0 ∧ Q 0) ∧ (¬ v57 ≤ ((x61 - (v56).toInt64) - 1) →
    (x40 < 0 →
    narrow .boolean (.int 1) = .int 1 ∧ Q 1) ∧ (¬ x40 < 0 →
    (x47 ≤ 0 →
    narrow .boolean (.int 0) = .int 0 ∧ Q 0) ∧ (¬ x47 ≤ 0 →
    narrow .boolean (.int 1) = .int 1 ∧ Q 1)))))))) ∧ W_L_areSound_L343 A P m t e p0 x15 x40 x47 Q K49 n50 x36 x16 x18 x48) ∧ ((0 ≤ x40 →
    ∃ o188 : Nat, o188 < nko A ∧ x40 = nI o188 ∧ nwd A o188 = false ∧
    ∀ r185 : Int64, r185 = lI (aScr A o188) →
    k41 r185) ∧ (¬ 0 ≤ x40 →
    k41 0))) ∧ ((v26 = 0 →
    k30 0) ∧ (¬ v26 = 0 →
    (0 < v27 →
    k30 0) ∧ (¬ 0 < v27 →
    vp_in 0 4 ∧
    (v27 ≤ (((-(m (ix 0)))).toInt64 - 1) →
    k30 0) ∧ (¬ v27 ≤ (((-(m (ix 0)))).toInt64 - 1) →
    k30 1))))) ∧ W_L_areSound_L35 A P m t e p0 x15 x16 x18 Q K20 n21 x11 x17 x19) ∧ ((¬ r1 = (m (ix 3)) →
    k5 0) ∧ (r1 = (m (ix 3)) →
    k5 1))
set_option maxHeartbeats 8000000 in
set_option maxRecDepth 100000 in
theorem c_L_areSound (l : Launch) (hst : l.stackTraces = false) (D : va_G) (a : Nat → Nat) (g : Nat → ClassId) (ea : Nat → Nat) (mo to eo : Nat) (A : zNt) (P : zPa) (m t e : Nat → Int32) (p0 : Int32) (s : zS) (hS : ST A P s) (Q : Int32 → Prop) (hw : W_L_areSound A P m t e p0 Q) : zWi l D (zT g) ea yL_areSound wsL_areSound ({ frames := 13, cells := 290, slots := 1740, locals := 322 } : Room) [.ref (a 0), .ref mo, .ref to, .ref eo, .int p0] (fun q => zFr g mo to eo m t e ++ WX a g q) s (fun r u => Q r ∧ ST A P u) := by
  refine zUi_start (ty := .boolean) (cc := cL_areSound) (maxL := 23) (lv0 := [(0, .ref (a 0)), (1, .ref mo), (2, .ref to), (3, .ref eo), (4, .int p0)]) (own := RL) hst rfl (by decide +kernel) rfl (Nat.le_of_ble_eq_true rfl) rfl (fun X C hR hL CL hE => ?_)
  show zV X D 23 (0 + 0) (0 + 0) ((zFr g mo to eo m t e) ++ WX a g s) 0 [(0, .ref (a 0)), (1, .ref mo), (2, .ref to), (3, .ref eo), (4, .int p0)] []
  refine z_aload_n C 0 dL_areSound_0 rfl ?_
  refine z_fi C hR hL (wr := (zFr g mo to eo m t e)) (wf := WX a g) (u0 := s) (As := []) (c_X4_sum l D a g s _ (X_sum hS)) gL_areSound_X4_sum rfl ⟨by decide +kernel, by decide +kernel, (show (parseMethodDescriptor yX4_sum.desc).map (fun d => d.parameters.length) = some 0 from by decide +kernel)⟩ ⟨Nat.le_of_ble_eq_true rfl, Nat.le_of_ble_eq_true rfl⟩ ⟨by dsimp only; omega, by dsimp only; omega⟩ 0 4 rfl rfl rfl rfl (Nat.le_of_ble_eq_true rfl) dL_areSound_1 (fun r1 s2 hk => ?_)
  refine z_widen (k := (0 + 0)) (n := (0 + 0)) (by dsimp only; omega) (by dsimp only; omega) ?_
  obtain ⟨es2, er1⟩ := hk
  have hS3 : ST A P s2 := es2 ▸ hS
  have hw := hw r1 er1
  refine z_aload_n C 1 dL_areSound_4 rfl ?_
  refine z_iconst C 3 dL_areSound_5 (by decide) ?_
  obtain ⟨b4, hw⟩ := hw
  refine z_iald C 0 0 rfl rfl b4 dL_areSound_6 ?_
  obtain ⟨k5, hk6, hw⟩ := hw
  have hj7 : ∀ (v8 : Int32) (s9 : zS) (hS10 : ST A P s9), k5 v8 → zV X D 23 (0 + 0) (0 + 0) ((zFr g mo to eo m t e) ++ WX a g s9) 15 [(0, .ref (a 0)), (1, .ref mo), (2, .ref to), (3, .ref eo), (4, .int p0)] [.int v8] := by
    intro v8 s9 hS10 hw0
    have hw := hk6 v8 hw0
    refine z_topi (fun x11 ex11 => ?_)
    have hw := hw x11 ex11
    refine z_istore (lv' := [(5, .int x11), (0, .ref (a 0)), (1, .ref mo), (2, .ref to), (3, .ref eo), (4, .int p0)]) C dL_areSound_15 (by decide) rfl ?_
    refine z_aload_n C 1 dL_areSound_17 rfl ?_
    refine z_fi C hR hL (wr := (zFr g mo to eo m t e)) (wf := WX a g) (u0 := s9) (As := []) (c_X4_parts l D a g s9 _ (X_parts hS10)) gL_areSound_X4_parts rfl ⟨by decide +kernel, by decide +kernel, (show (parseMethodDescriptor yX4_parts.desc).map (fun d => d.parameters.length) = some 0 from by decide +kernel)⟩ ⟨Nat.le_of_ble_eq_true rfl, Nat.le_of_ble_eq_true rfl⟩ ⟨by dsimp only; omega, by dsimp only; omega⟩ 0 4 rfl rfl rfl rfl (Nat.le_of_ble_eq_true rfl) dL_areSound_18 (fun r12 s13 hk => ?_)
    refine z_widen (k := (0 + 0)) (n := (0 + 0)) (by dsimp only; omega) (by dsimp only; omega) ?_
    obtain ⟨es13, er12⟩ := hk
    have hS14 : ST A P s13 := es13 ▸ hS10
    have hw := hw r12 er12
    refine z_topi (fun x15 ex15 => ?_)
    have hw := hw x15 ex15
    refine z_istore (lv' := [(6, .int x15), (5, .int x11), (0, .ref (a 0)), (1, .ref mo), (2, .ref to), (3, .ref eo), (4, .int p0)]) C dL_areSound_21 (by decide) rfl ?_
    refine z_iconst C 0 dL_areSound_23 (by decide) ?_
    refine z_topi (fun x16 ex16 => ?_)
    have hw := hw x16 ex16
    refine z_istore (lv' := [(7, .int x16), (6, .int x15), (5, .int x11), (0, .ref (a 0)), (1, .ref mo), (2, .ref to), (3, .ref eo), (4, .int p0)]) C dL_areSound_24 (by decide) rfl ?_
    refine z_lconst C 0 dL_areSound_26 (by decide) ?_
    refine z_topl (fun x17 ex17 => ?_)
    have hw := hw x17 ex17
    refine z_lstore (lv' := [(8, .long x17), (7, .int x16), (6, .int x15), (5, .int x11), (0, .ref (a 0)), (1, .ref mo), (2, .ref to), (3, .ref eo), (4, .int p0)]) C dL_areSound_27 (by decide) rfl ?_
    refine z_lconst C 0 dL_areSound_29 (by decide) ?_
    refine z_topl (fun x18 ex18 => ?_)
    have hw := hw x18 ex18
    refine z_lstore (lv' := [(10, .long x18), (8, .long x17), (7, .int x16), (6, .int x15), (5, .int x11), (0, .ref (a 0)), (1, .ref mo), (2, .ref to), (3, .ref eo), (4, .int p0)]) C dL_areSound_30 (by decide) rfl ?_
    refine z_iconst C 0 dL_areSound_32 (by decide) ?_
    refine z_topi (fun x19 ex19 => ?_)
    have hw := hw x19 ex19
    refine z_istore (lv' := [(12, .int x19), (10, .long x18), (8, .long x17), (7, .int x16), (6, .int x15), (5, .int x11), (0, .ref (a 0)), (1, .ref mo), (2, .ref to), (3, .ref eo), (4, .int p0)]) C dL_areSound_33 (by decide) rfl ?_
    refine z_sub (lv' := [(0, .ref (a 0)), (1, .ref mo), (2, .ref to), (3, .ref eo), (4, .int p0), (5, .int x11), (6, .int x15), (7, .int x16), (8, .long x17), (10, .long x18), (12, .int x19)]) [6, 7, 8, 9, 10, 5, 4, 3, 2, 1, 0] rfl ?_
    obtain ⟨K20, n21, hn22, hK23, hw⟩ := hw
    have hx24 : ∀ (v26 : Int32) (v27 : Int64) (s28 : zS) (hS29 : ST A P s28), K20 v26 v27 → zV X D 23 (0 + 96) (0 + 576) ((zFr g mo to eo m t e) ++ WX a g s28) 285 [(0, .ref (a 0)), (1, .ref mo), (3, .ref eo), (4, .int p0), (5, .int v26), (6, .int x15), (7, .int x16), (8, .long v27), (10, .long x18)] [] := by
      intro v26 v27 s28 hS29 hw0
      have hw := hK23 v26 v27 hw0
      refine z_iload C 4 dL_areSound_285 rfl ?_
      obtain ⟨k30, hk31, hw⟩ := hw
      have hj32 : ∀ (v33 : Int32) (s34 : zS) (hS35 : ST A P s34), k30 v33 → zV X D 23 (0 + 96) (0 + 576) ((zFr g mo to eo m t e) ++ WX a g s34) 315 [(0, .ref (a 0)), (1, .ref mo), (3, .ref eo), (4, .int p0), (6, .int x15), (7, .int x16), (10, .long x18)] [.int v33] := by
        intro v33 s34 hS35 hw0
        have hw := hk31 v33 hw0
        refine z_topi (fun x36 ex36 => ?_)
        have hw := hw x36 ex36
        refine z_istore (lv' := [(5, .int x36), (0, .ref (a 0)), (1, .ref mo), (3, .ref eo), (4, .int p0), (6, .int x15), (7, .int x16), (10, .long x18)]) C dL_areSound_315 (by decide) rfl ?_
        refine z_aload_n C 1 dL_areSound_317 rfl ?_
        refine z_fi C hR hL (wr := (zFr g mo to eo m t e)) (wf := WX a g) (u0 := s34) (As := []) (c_X4_worst l D a g s34 _ (X_worst hS35)) gL_areSound_X4_worst rfl ⟨by decide +kernel, by decide +kernel, (show (parseMethodDescriptor yX4_worst.desc).map (fun d => d.parameters.length) = some 0 from by decide +kernel)⟩ ⟨Nat.le_of_ble_eq_true rfl, Nat.le_of_ble_eq_true rfl⟩ ⟨by dsimp only; omega, by dsimp only; omega⟩ 0 4 rfl rfl rfl rfl (Nat.le_of_ble_eq_true rfl) dL_areSound_318 (fun r37 s38 hk => ?_)
        refine z_widen (k := (0 + 96)) (n := (0 + 576)) (by dsimp only; omega) (by dsimp only; omega) ?_
        obtain ⟨er37, hS39⟩ := hk
        have hw := hw r37 er37
        refine z_topi (fun x40 ex40 => ?_)
        have hw := hw x40 ex40
        refine z_istore (lv' := [(12, .int x40), (5, .int x36), (0, .ref (a 0)), (1, .ref mo), (3, .ref eo), (4, .int p0), (6, .int x15), (7, .int x16), (10, .long x18)]) C dL_areSound_321 (by decide) rfl ?_
        refine z_iload C 0 dL_areSound_323 rfl ?_
        obtain ⟨k41, hk42, hw⟩ := hw
        have hj43 : ∀ (v44 : Int64) (s45 : zS) (hS46 : ST A P s45), k41 v44 → zV X D 23 (0 + 98) (0 + 588) ((zFr g mo to eo m t e) ++ WX a g s45) 338 [(0, .ref (a 0)), (1, .ref mo), (3, .ref eo), (4, .int p0), (5, .int x36), (6, .int x15), (7, .int x16), (10, .long x18), (12, .int x40)] [.long v44] := by
          intro v44 s45 hS46 hw0
          have hw := hk42 v44 hw0
          refine z_topl (fun x47 ex47 => ?_)
          have hw := hw x47 ex47
          refine z_lstore (lv' := [(13, .long x47), (0, .ref (a 0)), (1, .ref mo), (3, .ref eo), (4, .int p0), (5, .int x36), (6, .int x15), (7, .int x16), (10, .long x18), (12, .int x40)]) C dL_areSound_338 (by decide) rfl ?_
          refine z_iconst C 0 dL_areSound_340 (by decide) ?_
          refine z_topi (fun x48 ex48 => ?_)
          have hw := hw x48 ex48
          refine z_istore (lv' := [(15, .int x48), (13, .long x47), (0, .ref (a 0)), (1, .ref mo), (3, .ref eo), (4, .int p0), (5, .int x36), (6, .int x15), (7, .int x16), (10, .long x18), (12, .int x40)]) C dL_areSound_341 (by decide) rfl ?_
          refine z_sub (lv' := [(0, .ref (a 0)), (1, .ref mo), (3, .ref eo), (4, .int p0), (5, .int x36), (6, .int x15), (7, .int x16), (10, .long x18), (12, .int x40), (13, .long x47), (15, .int x48)]) [2, 3, 4, 5, 6, 7, 8, 9, 10, 1, 0] rfl ?_
          obtain ⟨K49, n50, hn51, hK52, hw⟩ := hw
          have hx53 : ∀ (v55 : Int32) (v56 : Int32) (v57 : Int64) (s58 : zS) (hS59 : ST A P s58), K49 v55 v56 v57 → zV X D 23 (0 + 290) (0 + 1740) ((zFr g mo to eo m t e) ++ WX a g s58) 592 [(1, .ref mo), (5, .int v55), (6, .int x15), (7, .int v56), (10, .long v57), (12, .int x40), (13, .long x47)] [] := by
            intro v55 v56 v57 s58 hS59 hw0
            have hw := hK52 v55 v56 v57 hw0
            refine z_ldc2 C 1000 (List.mem_of_getElem? (i := 4) rfl) dL_areSound_592 ?_
            refine z_iload C 3 dL_areSound_595 rfl ?_
            refine z_aload_n C 0 dL_areSound_597 rfl ?_
            refine z_iconst C 0 dL_areSound_598 (by decide) ?_
            obtain ⟨b60, hw⟩ := hw
            refine z_iald C 0 0 rfl rfl b60 dL_areSound_599 ?_
            refine z_isub C dL_areSound_600 ?_
            refine z_iload C 2 dL_areSound_601 rfl ?_
            refine z_iadd C dL_areSound_603 ?_
            refine z_i2l C dL_areSound_604 ?_
            refine z_lmul C dL_areSound_605 ?_
            refine z_topl (fun x61 ex61 => ?_)
            have hw := hw x61 ex61
            refine z_lstore (lv' := [(15, .long x61), (1, .ref mo), (5, .int v55), (6, .int x15), (7, .int v56), (10, .long v57), (12, .int x40), (13, .long x47)]) C dL_areSound_606 (by decide) rfl ?_
            refine z_iload C 2 dL_areSound_608 rfl ?_
            refine z_if_eq C 664 dL_areSound_610 (by decide) (fun hc => ?_) (fun hc => ?_)
            · have hw := hw.1 hc
              refine z_iconst C 0 dL_areSound_664 (by decide) ?_
              obtain ⟨b62, hw⟩ := hw
              exact hE _ _ _ s58 _ _ dL_areSound_665 b62 (by dsimp only; omega) (by dsimp only; omega) ⟨hw, hS59⟩
            · have hw := hw.2 hc
              refine z_iload C 3 dL_areSound_613 rfl ?_
              refine z_if_lt C 664 dL_areSound_615 (by decide) (fun hc => ?_) (fun hc => ?_)
              · have hw := hw.1 hc
                refine z_iconst C 0 dL_areSound_664 (by decide) ?_
                obtain ⟨b63, hw⟩ := hw
                exact hE _ _ _ s58 _ _ dL_areSound_665 b63 (by dsimp only; omega) (by dsimp only; omega) ⟨hw, hS59⟩
              · have hw := hw.2 hc
                refine z_iload C 3 dL_areSound_618 rfl ?_
                refine z_aload_n C 1 dL_areSound_620 rfl ?_
                refine z_iconst C 0 dL_areSound_621 (by decide) ?_
                obtain ⟨b64, hw⟩ := hw
                refine z_iald C 0 0 rfl rfl b64 dL_areSound_622 ?_
                refine z_icmp_gt C 664 dL_areSound_623 (by decide) (fun hc => ?_) (fun hc => ?_)
                · have hw := hw.1 hc
                  refine z_iconst C 0 dL_areSound_664 (by decide) ?_
                  obtain ⟨b65, hw⟩ := hw
                  exact hE _ _ _ s58 _ _ dL_areSound_665 b65 (by dsimp only; omega) (by dsimp only; omega) ⟨hw, hS59⟩
                · have hw := hw.2 hc
                  refine z_lload C 5 dL_areSound_626 rfl ?_
                  refine z_lload C 0 dL_areSound_628 rfl ?_
                  refine z_lcmp_gt C 664 dL_areSound_630 dL_areSound_631 (by decide) (fun hc => ?_) (fun hc => ?_)
                  · have hw := hw.1 hc
                    refine z_iconst C 0 dL_areSound_664 (by decide) ?_
                    obtain ⟨b66, hw⟩ := hw
                    exact hE _ _ _ s58 _ _ dL_areSound_665 b66 (by dsimp only; omega) (by dsimp only; omega) ⟨hw, hS59⟩
                  · have hw := hw.2 hc
                    refine z_lload C 5 dL_areSound_634 rfl ?_
                    refine z_lload C 0 dL_areSound_636 rfl ?_
                    refine z_iload C 4 dL_areSound_638 rfl ?_
                    refine z_i2l C dL_areSound_640 ?_
                    refine z_lsub C dL_areSound_641 ?_
                    refine z_lconst C 1 dL_areSound_642 (by decide) ?_
                    refine z_lsub C dL_areSound_643 ?_
                    refine z_lcmp_le C 664 dL_areSound_644 dL_areSound_645 (by decide) (fun hc => ?_) (fun hc => ?_)
                    · have hw := hw.1 hc
                      refine z_iconst C 0 dL_areSound_664 (by decide) ?_
                      obtain ⟨b67, hw⟩ := hw
                      exact hE _ _ _ s58 _ _ dL_areSound_665 b67 (by dsimp only; omega) (by dsimp only; omega) ⟨hw, hS59⟩
                    · have hw := hw.2 hc
                      refine z_iload C 6 dL_areSound_648 rfl ?_
                      refine z_if_lt C 660 dL_areSound_650 (by decide) (fun hc => ?_) (fun hc => ?_)
                      · have hw := hw.1 hc
                        refine z_iconst C 1 dL_areSound_660 (by decide) ?_
                        refine z_goto C 665 dL_areSound_661 (by decide) ?_
                        obtain ⟨b68, hw⟩ := hw
                        exact hE _ _ _ s58 _ _ dL_areSound_665 b68 (by dsimp only; omega) (by dsimp only; omega) ⟨hw, hS59⟩
                      · have hw := hw.2 hc
                        refine z_lload C 7 dL_areSound_653 rfl ?_
                        refine z_lconst C 0 dL_areSound_655 (by decide) ?_
                        refine z_lcmp_le C 664 dL_areSound_656 dL_areSound_657 (by decide) (fun hc => ?_) (fun hc => ?_)
                        · have hw := hw.1 hc
                          refine z_iconst C 0 dL_areSound_664 (by decide) ?_
                          obtain ⟨b69, hw⟩ := hw
                          exact hE _ _ _ s58 _ _ dL_areSound_665 b69 (by dsimp only; omega) (by dsimp only; omega) ⟨hw, hS59⟩
                        · have hw := hw.2 hc
                          refine z_iconst C 1 dL_areSound_660 (by decide) ?_
                          refine z_goto C 665 dL_areSound_661 (by decide) ?_
                          obtain ⟨b70, hw⟩ := hw
                          exact hE _ _ _ s58 _ _ dL_areSound_665 b70 (by dsimp only; omega) (by dsimp only; omega) ⟨hw, hS59⟩
          have lp54 : ∀ n343 : Nat, n343 ≤ 16 → ∀ (v71 : Int32) (v72 : Int32) (v73 : Int64) (v74 : Int32) (s75 : zS) (hS76 : ST A P s75), W_L_areSound_L343 A P m t e p0 x15 x40 x47 Q K49 n343 v71 v72 v73 v74 → zV X D 23 ((0 + 98 + 12 * (16 - n343)) + 0) ((0 + 588 + 72 * (16 - n343)) + 0) ((zFr g mo to eo m t e) ++ WX a g s75) 343 [(0, .ref (a 0)), (1, .ref mo), (3, .ref eo), (4, .int p0), (5, .int v71), (6, .int x15), (7, .int v72), (10, .long v73), (12, .int x40), (13, .long x47), (15, .int v74)] [] := by
            intro n343
            induction n343 with
            | zero => intro _ v71 v72 v73 v74 s75 hS76 hw; exact False.elim hw
            | succ n343 ih =>
              intro hn v71 v72 v73 v74 s75 hS76 hw
              have hw : _ := hw
              refine z_iload C 10 dL_areSound_343 rfl ?_
              refine z_aload_n C 1 dL_areSound_345 rfl ?_
              refine z_iconst C 1 dL_areSound_346 (by decide) ?_
              obtain ⟨b77, hw⟩ := hw
              refine z_iald C 0 0 rfl rfl b77 dL_areSound_347 ?_
              refine z_icmp_ge C 592 dL_areSound_348 (by decide) (fun hc => ?_) (fun hc => ?_)
              · have hw := hw.1 hc
                refine z_sub (lv' := [(1, .ref mo), (5, .int v71), (6, .int x15), (7, .int v72), (10, .long v73), (12, .int x40), (13, .long x47)]) [1, 4, 5, 6, 7, 8, 9] rfl ?_
                refine z_widen (k := (0 + 290)) (n := (0 + 1740)) (by omega) (by omega) ?_
                exact hx53 _ _ _ s75 hS76 hw
              · have hw := hw.2 hc
                refine z_iload C 4 dL_areSound_351 rfl ?_
                refine z_if_eq C 592 dL_areSound_353 (by decide) (fun hc => ?_) (fun hc => ?_)
                · have hw := hw.1 hc
                  refine z_sub (lv' := [(1, .ref mo), (5, .int v71), (6, .int x15), (7, .int v72), (10, .long v73), (12, .int x40), (13, .long x47)]) [1, 4, 5, 6, 7, 8, 9] rfl ?_
                  refine z_widen (k := (0 + 290)) (n := (0 + 1740)) (by omega) (by omega) ?_
                  exact hx53 _ _ _ s75 hS76 hw
                · have hw := hw.2 hc
                  refine z_aload_n C 2 dL_areSound_356 rfl ?_
                  refine z_iconst C 5 dL_areSound_357 (by decide) ?_
                  refine z_iload C 10 dL_areSound_358 rfl ?_
                  refine z_imul C dL_areSound_360 ?_
                  refine z_iconst C 4 dL_areSound_361 (by decide) ?_
                  refine z_iadd C dL_areSound_362 ?_
                  obtain ⟨b78, hw⟩ := hw
                  refine z_iald C 2 0 rfl rfl b78 dL_areSound_363 ?_
                  refine z_if_ne C 586 dL_areSound_364 (by decide) (fun hc => ?_) (fun hc => ?_)
                  · have hw := hw.1 hc
                    obtain ⟨x79, ex79⟩ : ∃ z : Int32, z = v74 + 1 := ⟨_, rfl⟩
                    have hw := hw x79 ex79
                    refine z_iinc (lv' := [(15, .int x79), (0, .ref (a 0)), (1, .ref mo), (3, .ref eo), (4, .int p0), (5, .int v71), (6, .int x15), (7, .int v72), (10, .long v73), (12, .int x40), (13, .long x47)]) C 10 dL_areSound_586 rfl (by rw [ex79]; rfl) (by decide) rfl ?_
                    refine z_goto C 343 dL_areSound_589 (by decide) ?_
                    refine z_sub (lv' := [(0, .ref (a 0)), (1, .ref mo), (3, .ref eo), (4, .int p0), (5, .int v71), (6, .int x15), (7, .int v72), (10, .long v73), (12, .int x40), (13, .long x47), (15, .int x79)]) [1, 2, 3, 4, 5, 6, 7, 8, 9, 10, 0] rfl ?_
                    refine z_widen (k := ((0 + 98 + 12 * (16 - n343)) + 0)) (n := ((0 + 588 + 72 * (16 - n343)) + 0)) (by omega) (by omega) ?_
                    exact ih (by omega) _ _ _ _ s75 hS76 hw
                  · have hw := hw.2 hc
                    refine z_aload_n C 0 dL_areSound_367 rfl ?_
                    refine z_iload C 10 dL_areSound_368 rfl ?_
                    obtain ⟨o83, hj84, ej85, hd86, hw⟩ := hw
                    refine z_xfl0 C hR hL CL (wr := (zFr g mo to eo m t e)) (wf := WX a g) (u0 := s75) (As := [.int v74]) (c_X4_residual l hst D a g ea s75 v74 _ _ (X_residual hS76 v74)) gL_areSound_X4_residual rfl ⟨by decide +kernel, by decide +kernel, (show (parseMethodDescriptor yX4_residual.desc).map (fun d => d.parameters.length) = some 1 from by decide +kernel)⟩ ⟨Nat.le_of_ble_eq_true rfl, Nat.le_of_ble_eq_true rfl⟩ ⟨by dsimp only; omega, by dsimp only; omega⟩ 0 4 rfl rfl rfl rfl (Nat.le_of_ble_eq_true rfl) dL_areSound_370 (fun E u hx => oX_no (oOb_of (f := aRes A) (P := P) hS76.1 hj84 hd86 ej85) hx) (fun r80 s81 hk => ?_)
                    refine z_widen (k := ((0 + 98 + 12 * (16 - (n343 + 1))) + 2)) (n := ((0 + 588 + 72 * (16 - (n343 + 1))) + 12)) (by dsimp only; omega) (by dsimp only; omega) ?_
                    obtain ⟨er80, hS82⟩ := oX_l (oOb_of (f := aRes A) (P := P) hS76.1 hj84 hd86 ej85) hk
                    have hw := hw r80 er80
                    refine z_topl (fun x87 ex87 => ?_)
                    have hw := hw x87 ex87
                    refine z_lstore (lv' := [(16, .long x87), (0, .ref (a 0)), (1, .ref mo), (3, .ref eo), (4, .int p0), (5, .int v71), (6, .int x15), (7, .int v72), (10, .long v73), (12, .int x40), (13, .long x47), (15, .int v74)]) C dL_areSound_373 (by decide) rfl ?_
                    refine z_aload_n C 1 dL_areSound_375 rfl ?_
                    refine z_aload_n C 3 dL_areSound_376 rfl ?_
                    refine z_iconst C 5 dL_areSound_377 (by decide) ?_
                    refine z_iload C 11 dL_areSound_378 rfl ?_
                    refine z_imul C dL_areSound_380 ?_
                    refine z_iconst C 1 dL_areSound_381 (by decide) ?_
                    refine z_iadd C dL_areSound_382 ?_
                    obtain ⟨b88, hw⟩ := hw
                    refine z_iald C 2 0 rfl rfl b88 dL_areSound_383 ?_
                    obtain ⟨j92, hj93, ej94, hw⟩ := hw
                    refine z_xfl0 C hR hL CL (wr := (zFr g mo to eo m t e)) (wf := WX a g) (u0 := s81) (As := [.int (e (ix ((5 * v74) + 1)))]) (c_X4_height l hst D a g ea s81 (e (ix ((5 * v74) + 1))) _ _ (X_height hS82 (e (ix ((5 * v74) + 1))))) gL_areSound_X4_height rfl ⟨by decide +kernel, by decide +kernel, (show (parseMethodDescriptor yX4_height.desc).map (fun d => d.parameters.length) = some 1 from by decide +kernel)⟩ ⟨Nat.le_of_ble_eq_true rfl, Nat.le_of_ble_eq_true rfl⟩ ⟨by dsimp only; omega, by dsimp only; omega⟩ 0 4 rfl rfl rfl rfl (Nat.le_of_ble_eq_true rfl) dL_areSound_384 (fun E u hx => oX_no (oSt_of (f := aHgt A) (P := P) hS82.1 hj93 ej94) hx) (fun r89 s90 hk => ?_)
                    refine z_widen (k := ((0 + 98 + 12 * (16 - (n343 + 1))) + 3)) (n := ((0 + 588 + 72 * (16 - (n343 + 1))) + 18)) (by dsimp only; omega) (by dsimp only; omega) ?_
                    obtain ⟨er89, hS91⟩ := oX_l (oSt_of (f := aHgt A) (P := P) hS82.1 hj93 ej94) hk
                    have hw := hw r89 er89
                    refine z_aload_n C 1 dL_areSound_387 rfl ?_
                    refine z_aload_n C 3 dL_areSound_388 rfl ?_
                    refine z_iconst C 5 dL_areSound_389 (by decide) ?_
                    refine z_iload C 11 dL_areSound_390 rfl ?_
                    refine z_imul C dL_areSound_392 ?_
                    obtain ⟨b95, hw⟩ := hw
                    refine z_iald C 2 0 rfl rfl b95 dL_areSound_393 ?_
                    obtain ⟨j99, hj100, ej101, hw⟩ := hw
                    refine z_xfl0 C hR hL CL (wr := (zFr g mo to eo m t e)) (wf := WX a g) (u0 := s90) (As := [.int (e (ix (5 * v74)))]) (c_X4_height l hst D a g ea s90 (e (ix (5 * v74))) _ _ (X_height hS91 (e (ix (5 * v74))))) gL_areSound_X4_height rfl ⟨by decide +kernel, by decide +kernel, (show (parseMethodDescriptor yX4_height.desc).map (fun d => d.parameters.length) = some 1 from by decide +kernel)⟩ ⟨Nat.le_of_ble_eq_true rfl, Nat.le_of_ble_eq_true rfl⟩ ⟨by dsimp only; omega, by dsimp only; omega⟩ 0 4 rfl rfl rfl rfl (Nat.le_of_ble_eq_true rfl) dL_areSound_394 (fun E u hx => oX_no (oSt_of (f := aHgt A) (P := P) hS91.1 hj100 ej101) hx) (fun r96 s97 hk => ?_)
                    refine z_widen (k := ((0 + 98 + 12 * (16 - (n343 + 1))) + 4)) (n := ((0 + 588 + 72 * (16 - (n343 + 1))) + 24)) (by dsimp only; omega) (by dsimp only; omega) ?_
                    obtain ⟨er96, hS98⟩ := oX_l (oSt_of (f := aHgt A) (P := P) hS91.1 hj100 ej101) hk
                    have hw := hw r96 er96
                    refine z_lsub C dL_areSound_397 ?_
                    refine z_ldc2 C 100 (List.mem_of_getElem? (i := 1) rfl) dL_areSound_398 ?_
                    refine z_aload_n C 3 dL_areSound_401 rfl ?_
                    refine z_iconst C 5 dL_areSound_402 (by decide) ?_
                    refine z_iload C 11 dL_areSound_403 rfl ?_
                    refine z_imul C dL_areSound_405 ?_
                    refine z_iconst C 2 dL_areSound_406 (by decide) ?_
                    refine z_iadd C dL_areSound_407 ?_
                    obtain ⟨b102, hw⟩ := hw
                    refine z_iald C 2 0 rfl rfl b102 dL_areSound_408 ?_
                    refine z_i2l C dL_areSound_409 ?_
                    refine z_lmul C dL_areSound_410 ?_
                    refine z_lsub C dL_areSound_411 ?_
                    refine z_topl (fun x103 ex103 => ?_)
                    have hw := hw x103 ex103
                    refine z_lstore (lv' := [(18, .long x103), (16, .long x87), (0, .ref (a 0)), (1, .ref mo), (3, .ref eo), (4, .int p0), (5, .int v71), (6, .int x15), (7, .int v72), (10, .long v73), (12, .int x40), (13, .long x47), (15, .int v74)]) C dL_areSound_412 (by decide) rfl ?_
                    refine z_aload_n C 2 dL_areSound_414 rfl ?_
                    refine z_iload C 12 dL_areSound_415 rfl ?_
                    obtain ⟨o107, hj108, ej109, hd110, hw⟩ := hw
                    refine z_xfi0 C hR hL CL (wr := (zFr g mo to eo m t e)) (wf := WX a g) (u0 := s97) (As := [.int v74]) (c_X4_check l hst D a g ea s97 v74 _ _ (X_check hS98 v74)) gL_areSound_X4_check rfl ⟨by decide +kernel, by decide +kernel, (show (parseMethodDescriptor yX4_check.desc).map (fun d => d.parameters.length) = some 1 from by decide +kernel)⟩ ⟨Nat.le_of_ble_eq_true rfl, Nat.le_of_ble_eq_true rfl⟩ ⟨by dsimp only; omega, by dsimp only; omega⟩ 0 4 rfl rfl rfl rfl (Nat.le_of_ble_eq_true rfl) dL_areSound_417 (fun E u hx => oX_no (oOb_of (f := aChk A) (P := P) hS98.1 hj108 hd110 ej109) hx) (fun r104 s105 hk => ?_)
                    refine z_widen (k := ((0 + 98 + 12 * (16 - (n343 + 1))) + 6)) (n := ((0 + 588 + 72 * (16 - (n343 + 1))) + 36)) (by dsimp only; omega) (by dsimp only; omega) ?_
                    obtain ⟨er104, hS106⟩ := oX_i (oOb_of (f := aChk A) (P := P) hS98.1 hj108 hd110 ej109) hk
                    have hw := hw r104 er104
                    refine z_topi (fun x111 ex111 => ?_)
                    have hw := hw x111 ex111
                    refine z_istore (lv' := [(20, .int x111), (18, .long x103), (16, .long x87), (0, .ref (a 0)), (1, .ref mo), (3, .ref eo), (4, .int p0), (5, .int v71), (6, .int x15), (7, .int v72), (10, .long v73), (12, .int x40), (13, .long x47), (15, .int v74)]) C dL_areSound_420 (by decide) rfl ?_
                    refine z_aload_n C 3 dL_areSound_422 rfl ?_
                    refine z_iload C 13 dL_areSound_423 rfl ?_
                    obtain ⟨o115, hj116, ej117, hd118, hw⟩ := hw
                    refine z_xfl0 C hR hL CL (wr := (zFr g mo to eo m t e)) (wf := WX a g) (u0 := s105) (As := [.int v74]) (c_X4_score l hst D a g ea s105 v74 _ _ (X_score hS106 v74)) gL_areSound_X4_score rfl ⟨by decide +kernel, by decide +kernel, (show (parseMethodDescriptor yX4_score.desc).map (fun d => d.parameters.length) = some 1 from by decide +kernel)⟩ ⟨Nat.le_of_ble_eq_true rfl, Nat.le_of_ble_eq_true rfl⟩ ⟨by dsimp only; omega, by dsimp only; omega⟩ 0 4 rfl rfl rfl rfl (Nat.le_of_ble_eq_true rfl) dL_areSound_425 (fun E u hx => oX_no (oOb_of (f := aScr A) (P := P) hS106.1 hj116 hd118 ej117) hx) (fun r112 s113 hk => ?_)
                    refine z_widen (k := ((0 + 98 + 12 * (16 - (n343 + 1))) + 8)) (n := ((0 + 588 + 72 * (16 - (n343 + 1))) + 48)) (by dsimp only; omega) (by dsimp only; omega) ?_
                    obtain ⟨er112, hS114⟩ := oX_l (oOb_of (f := aScr A) (P := P) hS106.1 hj116 hd118 ej117) hk
                    have hw := hw r112 er112
                    refine z_topl (fun x119 ex119 => ?_)
                    have hw := hw x119 ex119
                    refine z_lstore (lv' := [(21, .long x119), (20, .int x111), (18, .long x103), (16, .long x87), (0, .ref (a 0)), (1, .ref mo), (3, .ref eo), (4, .int p0), (5, .int v71), (6, .int x15), (7, .int v72), (10, .long v73), (12, .int x40), (13, .long x47), (15, .int v74)]) C dL_areSound_428 (by decide) rfl ?_
                    obtain ⟨x120, ex120⟩ : ∃ z : Int32, z = v72 + 1 := ⟨_, rfl⟩
                    have hw := hw x120 ex120
                    refine z_iinc (lv' := [(7, .int x120), (21, .long x119), (20, .int x111), (18, .long x103), (16, .long x87), (0, .ref (a 0)), (1, .ref mo), (3, .ref eo), (4, .int p0), (5, .int v71), (6, .int x15), (10, .long v73), (12, .int x40), (13, .long x47), (15, .int v74)]) C 10 dL_areSound_430 rfl (by rw [ex120]; rfl) (by decide) rfl ?_
                    refine z_lload C 11 dL_areSound_433 rfl ?_
                    refine z_iload C 2 dL_areSound_435 rfl ?_
                    refine z_i2l C dL_areSound_437 ?_
                    refine z_ladd C dL_areSound_438 ?_
                    refine z_topl (fun x121 ex121 => ?_)
                    have hw := hw x121 ex121
                    refine z_lstore (lv' := [(10, .long x121), (7, .int x120), (21, .long x119), (20, .int x111), (18, .long x103), (16, .long x87), (0, .ref (a 0)), (1, .ref mo), (3, .ref eo), (4, .int p0), (5, .int v71), (6, .int x15), (12, .int x40), (13, .long x47), (15, .int v74)]) C dL_areSound_439 (by decide) rfl ?_
                    refine z_lload C 5 dL_areSound_441 rfl ?_
                    refine z_lload C 4 dL_areSound_443 rfl ?_
                    refine z_lconst C 1 dL_areSound_445 (by decide) ?_
                    refine z_lsub C dL_areSound_446 ?_
                    refine z_lcmp_lt C 583 dL_areSound_447 dL_areSound_448 (by decide) (fun hc => ?_) (fun hc => ?_)
                    · have hw := hw.1 hc
                      refine z_iconst C 0 dL_areSound_583 (by decide) ?_
                      refine z_topi (fun x122 ex122 => ?_)
                      have hw := hw x122 ex122
                      refine z_istore (lv' := [(5, .int x122), (10, .long x121), (7, .int x120), (21, .long x119), (20, .int x111), (18, .long x103), (16, .long x87), (0, .ref (a 0)), (1, .ref mo), (3, .ref eo), (4, .int p0), (6, .int x15), (12, .int x40), (13, .long x47), (15, .int v74)]) C dL_areSound_584 (by decide) rfl ?_
                      obtain ⟨x123, ex123⟩ : ∃ z : Int32, z = v74 + 1 := ⟨_, rfl⟩
                      have hw := hw x123 ex123
                      refine z_iinc (lv' := [(15, .int x123), (5, .int x122), (10, .long x121), (7, .int x120), (21, .long x119), (20, .int x111), (18, .long x103), (16, .long x87), (0, .ref (a 0)), (1, .ref mo), (3, .ref eo), (4, .int p0), (6, .int x15), (12, .int x40), (13, .long x47)]) C 14 dL_areSound_586 rfl (by rw [ex123]; rfl) (by decide) rfl ?_
                      refine z_goto C 343 dL_areSound_589 (by decide) ?_
                      refine z_sub (lv' := [(0, .ref (a 0)), (1, .ref mo), (3, .ref eo), (4, .int p0), (5, .int x122), (6, .int x15), (7, .int x120), (10, .long x121), (12, .int x40), (13, .long x47), (15, .int x123)]) [8, 9, 10, 11, 1, 12, 3, 2, 13, 14, 0] rfl ?_
                      refine z_widen (k := ((0 + 98 + 12 * (16 - n343)) + 0)) (n := ((0 + 588 + 72 * (16 - n343)) + 0)) (by omega) (by omega) ?_
                      exact ih (by omega) _ _ _ _ s113 hS114 hw
                    · have hw := hw.2 hc
                      refine z_lload C 5 dL_areSound_451 rfl ?_
                      refine z_lload C 4 dL_areSound_453 rfl ?_
                      refine z_lconst C 1 dL_areSound_455 (by decide) ?_
                      refine z_ladd C dL_areSound_456 ?_
                      refine z_lcmp_gt C 583 dL_areSound_457 dL_areSound_458 (by decide) (fun hc => ?_) (fun hc => ?_)
                      · have hw := hw.1 hc
                        refine z_iconst C 0 dL_areSound_583 (by decide) ?_
                        refine z_topi (fun x124 ex124 => ?_)
                        have hw := hw x124 ex124
                        refine z_istore (lv' := [(5, .int x124), (10, .long x121), (7, .int x120), (21, .long x119), (20, .int x111), (18, .long x103), (16, .long x87), (0, .ref (a 0)), (1, .ref mo), (3, .ref eo), (4, .int p0), (6, .int x15), (12, .int x40), (13, .long x47), (15, .int v74)]) C dL_areSound_584 (by decide) rfl ?_
                        obtain ⟨x125, ex125⟩ : ∃ z : Int32, z = v74 + 1 := ⟨_, rfl⟩
                        have hw := hw x125 ex125
                        refine z_iinc (lv' := [(15, .int x125), (5, .int x124), (10, .long x121), (7, .int x120), (21, .long x119), (20, .int x111), (18, .long x103), (16, .long x87), (0, .ref (a 0)), (1, .ref mo), (3, .ref eo), (4, .int p0), (6, .int x15), (12, .int x40), (13, .long x47)]) C 14 dL_areSound_586 rfl (by rw [ex125]; rfl) (by decide) rfl ?_
                        refine z_goto C 343 dL_areSound_589 (by decide) ?_
                        refine z_sub (lv' := [(0, .ref (a 0)), (1, .ref mo), (3, .ref eo), (4, .int p0), (5, .int x124), (6, .int x15), (7, .int x120), (10, .long x121), (12, .int x40), (13, .long x47), (15, .int x125)]) [8, 9, 10, 11, 1, 12, 3, 2, 13, 14, 0] rfl ?_
                        refine z_widen (k := ((0 + 98 + 12 * (16 - n343)) + 0)) (n := ((0 + 588 + 72 * (16 - n343)) + 0)) (by omega) (by omega) ?_
                        exact ih (by omega) _ _ _ _ s113 hS114 hw
                      · have hw := hw.2 hc
                        refine z_iload C 3 dL_areSound_461 rfl ?_
                        refine z_if_lt C 583 dL_areSound_463 (by decide) (fun hc => ?_) (fun hc => ?_)
                        · have hw := hw.1 hc
                          refine z_iconst C 0 dL_areSound_583 (by decide) ?_
                          refine z_topi (fun x126 ex126 => ?_)
                          have hw := hw x126 ex126
                          refine z_istore (lv' := [(5, .int x126), (10, .long x121), (7, .int x120), (21, .long x119), (20, .int x111), (18, .long x103), (16, .long x87), (0, .ref (a 0)), (1, .ref mo), (3, .ref eo), (4, .int p0), (6, .int x15), (12, .int x40), (13, .long x47), (15, .int v74)]) C dL_areSound_584 (by decide) rfl ?_
                          obtain ⟨x127, ex127⟩ : ∃ z : Int32, z = v74 + 1 := ⟨_, rfl⟩
                          have hw := hw x127 ex127
                          refine z_iinc (lv' := [(15, .int x127), (5, .int x126), (10, .long x121), (7, .int x120), (21, .long x119), (20, .int x111), (18, .long x103), (16, .long x87), (0, .ref (a 0)), (1, .ref mo), (3, .ref eo), (4, .int p0), (6, .int x15), (12, .int x40), (13, .long x47)]) C 14 dL_areSound_586 rfl (by rw [ex127]; rfl) (by decide) rfl ?_
                          refine z_goto C 343 dL_areSound_589 (by decide) ?_
                          refine z_sub (lv' := [(0, .ref (a 0)), (1, .ref mo), (3, .ref eo), (4, .int p0), (5, .int x126), (6, .int x15), (7, .int x120), (10, .long x121), (12, .int x40), (13, .long x47), (15, .int x127)]) [8, 9, 10, 11, 1, 12, 3, 2, 13, 14, 0] rfl ?_
                          refine z_widen (k := ((0 + 98 + 12 * (16 - n343)) + 0)) (n := ((0 + 588 + 72 * (16 - n343)) + 0)) (by omega) (by omega) ?_
                          exact ih (by omega) _ _ _ _ s113 hS114 hw
                        · have hw := hw.2 hc
                          refine z_iload C 3 dL_areSound_466 rfl ?_
                          refine z_sipush C 1000 dL_areSound_468 (by decide) ?_
                          refine z_icmp_ge C 583 dL_areSound_471 (by decide) (fun hc => ?_) (fun hc => ?_)
                          · have hw := hw.1 hc
                            refine z_iconst C 0 dL_areSound_583 (by decide) ?_
                            refine z_topi (fun x128 ex128 => ?_)
                            have hw := hw x128 ex128
                            refine z_istore (lv' := [(5, .int x128), (10, .long x121), (7, .int x120), (21, .long x119), (20, .int x111), (18, .long x103), (16, .long x87), (0, .ref (a 0)), (1, .ref mo), (3, .ref eo), (4, .int p0), (6, .int x15), (12, .int x40), (13, .long x47), (15, .int v74)]) C dL_areSound_584 (by decide) rfl ?_
                            obtain ⟨x129, ex129⟩ : ∃ z : Int32, z = v74 + 1 := ⟨_, rfl⟩
                            have hw := hw x129 ex129
                            refine z_iinc (lv' := [(15, .int x129), (5, .int x128), (10, .long x121), (7, .int x120), (21, .long x119), (20, .int x111), (18, .long x103), (16, .long x87), (0, .ref (a 0)), (1, .ref mo), (3, .ref eo), (4, .int p0), (6, .int x15), (12, .int x40), (13, .long x47)]) C 14 dL_areSound_586 rfl (by rw [ex129]; rfl) (by decide) rfl ?_
                            refine z_goto C 343 dL_areSound_589 (by decide) ?_
                            refine z_sub (lv' := [(0, .ref (a 0)), (1, .ref mo), (3, .ref eo), (4, .int p0), (5, .int x128), (6, .int x15), (7, .int x120), (10, .long x121), (12, .int x40), (13, .long x47), (15, .int x129)]) [8, 9, 10, 11, 1, 12, 3, 2, 13, 14, 0] rfl ?_
                            refine z_widen (k := ((0 + 98 + 12 * (16 - n343)) + 0)) (n := ((0 + 588 + 72 * (16 - n343)) + 0)) (by omega) (by omega) ?_
                            exact ih (by omega) _ _ _ _ s113 hS114 hw
                          · have hw := hw.2 hc
                            refine z_lload C 2 dL_areSound_474 rfl ?_
                            refine z_lconst C 0 dL_areSound_476 (by decide) ?_
                            refine z_lcmp_lt C 583 dL_areSound_477 dL_areSound_478 (by decide) (fun hc => ?_) (fun hc => ?_)
                            · have hw := hw.1 hc
                              refine z_iconst C 0 dL_areSound_583 (by decide) ?_
                              refine z_topi (fun x130 ex130 => ?_)
                              have hw := hw x130 ex130
                              refine z_istore (lv' := [(5, .int x130), (10, .long x121), (7, .int x120), (21, .long x119), (20, .int x111), (18, .long x103), (16, .long x87), (0, .ref (a 0)), (1, .ref mo), (3, .ref eo), (4, .int p0), (6, .int x15), (12, .int x40), (13, .long x47), (15, .int v74)]) C dL_areSound_584 (by decide) rfl ?_
                              obtain ⟨x131, ex131⟩ : ∃ z : Int32, z = v74 + 1 := ⟨_, rfl⟩
                              have hw := hw x131 ex131
                              refine z_iinc (lv' := [(15, .int x131), (5, .int x130), (10, .long x121), (7, .int x120), (21, .long x119), (20, .int x111), (18, .long x103), (16, .long x87), (0, .ref (a 0)), (1, .ref mo), (3, .ref eo), (4, .int p0), (6, .int x15), (12, .int x40), (13, .long x47)]) C 14 dL_areSound_586 rfl (by rw [ex131]; rfl) (by decide) rfl ?_
                              refine z_goto C 343 dL_areSound_589 (by decide) ?_
                              refine z_sub (lv' := [(0, .ref (a 0)), (1, .ref mo), (3, .ref eo), (4, .int p0), (5, .int x130), (6, .int x15), (7, .int x120), (10, .long x121), (12, .int x40), (13, .long x47), (15, .int x131)]) [8, 9, 10, 11, 1, 12, 3, 2, 13, 14, 0] rfl ?_
                              refine z_widen (k := ((0 + 98 + 12 * (16 - n343)) + 0)) (n := ((0 + 588 + 72 * (16 - n343)) + 0)) (by omega) (by omega) ?_
                              exact ih (by omega) _ _ _ _ s113 hS114 hw
                            · have hw := hw.2 hc
                              refine z_lload C 2 dL_areSound_481 rfl ?_
                              refine z_lload C 13 dL_areSound_483 rfl ?_
                              refine z_lcmp_gt C 583 dL_areSound_485 dL_areSound_486 (by decide) (fun hc => ?_) (fun hc => ?_)
                              · have hw := hw.1 hc
                                refine z_iconst C 0 dL_areSound_583 (by decide) ?_
                                refine z_topi (fun x132 ex132 => ?_)
                                have hw := hw x132 ex132
                                refine z_istore (lv' := [(5, .int x132), (10, .long x121), (7, .int x120), (21, .long x119), (20, .int x111), (18, .long x103), (16, .long x87), (0, .ref (a 0)), (1, .ref mo), (3, .ref eo), (4, .int p0), (6, .int x15), (12, .int x40), (13, .long x47), (15, .int v74)]) C dL_areSound_584 (by decide) rfl ?_
                                obtain ⟨x133, ex133⟩ : ∃ z : Int32, z = v74 + 1 := ⟨_, rfl⟩
                                have hw := hw x133 ex133
                                refine z_iinc (lv' := [(15, .int x133), (5, .int x132), (10, .long x121), (7, .int x120), (21, .long x119), (20, .int x111), (18, .long x103), (16, .long x87), (0, .ref (a 0)), (1, .ref mo), (3, .ref eo), (4, .int p0), (6, .int x15), (12, .int x40), (13, .long x47)]) C 14 dL_areSound_586 rfl (by rw [ex133]; rfl) (by decide) rfl ?_
                                refine z_goto C 343 dL_areSound_589 (by decide) ?_
                                refine z_sub (lv' := [(0, .ref (a 0)), (1, .ref mo), (3, .ref eo), (4, .int p0), (5, .int x132), (6, .int x15), (7, .int x120), (10, .long x121), (12, .int x40), (13, .long x47), (15, .int x133)]) [8, 9, 10, 11, 1, 12, 3, 2, 13, 14, 0] rfl ?_
                                refine z_widen (k := ((0 + 98 + 12 * (16 - n343)) + 0)) (n := ((0 + 588 + 72 * (16 - n343)) + 0)) (by omega) (by omega) ?_
                                exact ih (by omega) _ _ _ _ s113 hS114 hw
                              · have hw := hw.2 hc
                                refine z_lload C 2 dL_areSound_489 rfl ?_
                                refine z_lload C 13 dL_areSound_491 rfl ?_
                                obtain ⟨k134, hk135, hw⟩ := hw
                                have hj136 : ∀ (s137 : zS) (hS138 : ST A P s137), k134  → zV X D 23 ((0 + 98 + 12 * (16 - (n343 + 1))) + 8) ((0 + 588 + 72 * (16 - (n343 + 1))) + 48) ((zFr g mo to eo m t e) ++ WX a g s137) 504 [(0, .ref (a 0)), (1, .ref mo), (3, .ref eo), (4, .int p0), (6, .int x15), (7, .int x120), (10, .long x121), (12, .int x40), (13, .long x47), (15, .int v74), (16, .long x87), (20, .int x111), (21, .long x119)] [] := by
                                  intro s137 hS138 hw0
                                  have hw := hk135  hw0
                                  refine z_iload C 11 dL_areSound_504 rfl ?_
                                  obtain ⟨k139, hk140, hw⟩ := hw
                                  have hj141 : ∀ (s142 : zS) (hS143 : ST A P s142), k139  → zV X D 23 ((0 + 98 + 12 * (16 - (n343 + 1))) + 8) ((0 + 588 + 72 * (16 - (n343 + 1))) + 48) ((zFr g mo to eo m t e) ++ WX a g s142) 523 [(0, .ref (a 0)), (1, .ref mo), (3, .ref eo), (4, .int p0), (6, .int x15), (7, .int x120), (10, .long x121), (12, .int x40), (13, .long x47), (15, .int v74), (20, .int x111)] [] := by
                                    intro s142 hS143 hw0
                                    have hw := hk140  hw0
                                    refine z_iload C 9 dL_areSound_523 rfl ?_
                                    refine z_iload C 3 dL_areSound_525 rfl ?_
                                    refine z_aload_n C 1 dL_areSound_527 rfl ?_
                                    refine z_iconst C 1 dL_areSound_528 (by decide) ?_
                                    obtain ⟨b144, hw⟩ := hw
                                    refine z_iald C 0 0 rfl rfl b144 dL_areSound_529 ?_
                                    obtain ⟨b145, hw⟩ := hw
                                    refine z_irem C dL_areSound_530 b145 ?_
                                    obtain ⟨k146, hk147, hw⟩ := hw
                                    have hj148 : ∀ (s149 : zS) (hS150 : ST A P s149), k146  → zV X D 23 ((0 + 98 + 12 * (16 - (n343 + 1))) + 10) ((0 + 588 + 72 * (16 - (n343 + 1))) + 60) ((zFr g mo to eo m t e) ++ WX a g s149) 553 [(0, .ref (a 0)), (1, .ref mo), (3, .ref eo), (4, .int p0), (6, .int x15), (7, .int x120), (10, .long x121), (12, .int x40), (13, .long x47), (15, .int v74)] [] := by
                                      intro s149 hS150 hw0
                                      have hw := hk147  hw0
                                      refine z_aload_n C 0 dL_areSound_553 rfl ?_
                                      refine z_aload_n C 2 dL_areSound_554 rfl ?_
                                      refine z_iconst C 5 dL_areSound_555 (by decide) ?_
                                      refine z_iload C 9 dL_areSound_556 rfl ?_
                                      refine z_imul C dL_areSound_558 ?_
                                      obtain ⟨b151, hw⟩ := hw
                                      refine z_iald C 2 0 rfl rfl b151 dL_areSound_559 ?_
                                      obtain ⟨j155, hj156, ej157, hw⟩ := hw
                                      refine z_xfl0 C hR hL CL (wr := (zFr g mo to eo m t e)) (wf := WX a g) (u0 := s149) (As := [.int (e (ix (5 * v74)))]) (c_X4_trees l hst D a g ea s149 (e (ix (5 * v74))) _ _ (X_trees hS150 (e (ix (5 * v74))))) gL_areSound_X4_trees rfl ⟨by decide +kernel, by decide +kernel, (show (parseMethodDescriptor yX4_trees.desc).map (fun d => d.parameters.length) = some 1 from by decide +kernel)⟩ ⟨Nat.le_of_ble_eq_true rfl, Nat.le_of_ble_eq_true rfl⟩ ⟨by dsimp only; omega, by dsimp only; omega⟩ 0 4 rfl rfl rfl rfl (Nat.le_of_ble_eq_true rfl) dL_areSound_560 (fun E u hx => oX_no (oSt_of (f := fun t => pT A t 14) (P := P) hS150.1 hj156 ej157) hx) (fun r152 s153 hk => ?_)
                                      refine z_widen (k := ((0 + 98 + 12 * (16 - (n343 + 1))) + 11)) (n := ((0 + 588 + 72 * (16 - (n343 + 1))) + 66)) (by dsimp only; omega) (by dsimp only; omega) ?_
                                      obtain ⟨er152, hS154⟩ := oX_l (oSt_of (f := fun t => pT A t 14) (P := P) hS150.1 hj156 ej157) hk
                                      have hw := hw r152 er152
                                      refine z_aload_n C 0 dL_areSound_563 rfl ?_
                                      refine z_aload_n C 2 dL_areSound_564 rfl ?_
                                      refine z_iconst C 5 dL_areSound_565 (by decide) ?_
                                      refine z_iload C 9 dL_areSound_566 rfl ?_
                                      refine z_imul C dL_areSound_568 ?_
                                      refine z_iconst C 1 dL_areSound_569 (by decide) ?_
                                      refine z_iadd C dL_areSound_570 ?_
                                      obtain ⟨b158, hw⟩ := hw
                                      refine z_iald C 2 0 rfl rfl b158 dL_areSound_571 ?_
                                      obtain ⟨j162, hj163, ej164, hw⟩ := hw
                                      refine z_xfl0 C hR hL CL (wr := (zFr g mo to eo m t e)) (wf := WX a g) (u0 := s153) (As := [.int (e (ix ((5 * v74) + 1)))]) (c_X4_trees l hst D a g ea s153 (e (ix ((5 * v74) + 1))) _ _ (X_trees hS154 (e (ix ((5 * v74) + 1))))) gL_areSound_X4_trees rfl ⟨by decide +kernel, by decide +kernel, (show (parseMethodDescriptor yX4_trees.desc).map (fun d => d.parameters.length) = some 1 from by decide +kernel)⟩ ⟨Nat.le_of_ble_eq_true rfl, Nat.le_of_ble_eq_true rfl⟩ ⟨by dsimp only; omega, by dsimp only; omega⟩ 0 4 rfl rfl rfl rfl (Nat.le_of_ble_eq_true rfl) dL_areSound_572 (fun E u hx => oX_no (oSt_of (f := fun t => pT A t 14) (P := P) hS154.1 hj163 ej164) hx) (fun r159 s160 hk => ?_)
                                      refine z_widen (k := ((0 + 98 + 12 * (16 - (n343 + 1))) + 12)) (n := ((0 + 588 + 72 * (16 - (n343 + 1))) + 72)) (by dsimp only; omega) (by dsimp only; omega) ?_
                                      obtain ⟨er159, hS161⟩ := oX_l (oSt_of (f := fun t => pT A t 14) (P := P) hS154.1 hj163 ej164) hk
                                      have hw := hw r159 er159
                                      refine z_lcmp_ne C 583 dL_areSound_575 dL_areSound_576 (by decide) (fun hc => ?_) (fun hc => ?_)
                                      · have hw := hw.1 hc
                                        refine z_iconst C 0 dL_areSound_583 (by decide) ?_
                                        refine z_topi (fun x165 ex165 => ?_)
                                        have hw := hw x165 ex165
                                        refine z_istore (lv' := [(5, .int x165), (0, .ref (a 0)), (1, .ref mo), (3, .ref eo), (4, .int p0), (6, .int x15), (7, .int x120), (10, .long x121), (12, .int x40), (13, .long x47), (15, .int v74)]) C dL_areSound_584 (by decide) rfl ?_
                                        obtain ⟨x166, ex166⟩ : ∃ z : Int32, z = v74 + 1 := ⟨_, rfl⟩
                                        have hw := hw x166 ex166
                                        refine z_iinc (lv' := [(15, .int x166), (5, .int x165), (0, .ref (a 0)), (1, .ref mo), (3, .ref eo), (4, .int p0), (6, .int x15), (7, .int x120), (10, .long x121), (12, .int x40), (13, .long x47)]) C 10 dL_areSound_586 rfl (by rw [ex166]; rfl) (by decide) rfl ?_
                                        refine z_goto C 343 dL_areSound_589 (by decide) ?_
                                        refine z_sub (lv' := [(0, .ref (a 0)), (1, .ref mo), (3, .ref eo), (4, .int p0), (5, .int x165), (6, .int x15), (7, .int x120), (10, .long x121), (12, .int x40), (13, .long x47), (15, .int x166)]) [2, 3, 4, 5, 1, 6, 7, 8, 9, 10, 0] rfl ?_
                                        refine z_widen (k := ((0 + 98 + 12 * (16 - n343)) + 0)) (n := ((0 + 588 + 72 * (16 - n343)) + 0)) (by omega) (by omega) ?_
                                        exact ih (by omega) _ _ _ _ s160 hS161 hw
                                      · have hw := hw.2 hc
                                        refine z_iconst C 1 dL_areSound_579 (by decide) ?_
                                        refine z_goto C 584 dL_areSound_580 (by decide) ?_
                                        refine z_topi (fun x167 ex167 => ?_)
                                        have hw := hw x167 ex167
                                        refine z_istore (lv' := [(5, .int x167), (0, .ref (a 0)), (1, .ref mo), (3, .ref eo), (4, .int p0), (6, .int x15), (7, .int x120), (10, .long x121), (12, .int x40), (13, .long x47), (15, .int v74)]) C dL_areSound_584 (by decide) rfl ?_
                                        obtain ⟨x168, ex168⟩ : ∃ z : Int32, z = v74 + 1 := ⟨_, rfl⟩
                                        have hw := hw x168 ex168
                                        refine z_iinc (lv' := [(15, .int x168), (5, .int x167), (0, .ref (a 0)), (1, .ref mo), (3, .ref eo), (4, .int p0), (6, .int x15), (7, .int x120), (10, .long x121), (12, .int x40), (13, .long x47)]) C 10 dL_areSound_586 rfl (by rw [ex168]; rfl) (by decide) rfl ?_
                                        refine z_goto C 343 dL_areSound_589 (by decide) ?_
                                        refine z_sub (lv' := [(0, .ref (a 0)), (1, .ref mo), (3, .ref eo), (4, .int p0), (5, .int x167), (6, .int x15), (7, .int x120), (10, .long x121), (12, .int x40), (13, .long x47), (15, .int x168)]) [2, 3, 4, 5, 1, 6, 7, 8, 9, 10, 0] rfl ?_
                                        refine z_widen (k := ((0 + 98 + 12 * (16 - n343)) + 0)) (n := ((0 + 588 + 72 * (16 - n343)) + 0)) (by omega) (by omega) ?_
                                        exact ih (by omega) _ _ _ _ s160 hS161 hw
                                    refine z_icmp_ne C 553 dL_areSound_531 (by decide) (fun hc => ?_) (fun hc => ?_)
                                    · have hw := hw.1 hc
                                      refine z_sub (lv' := [(0, .ref (a 0)), (1, .ref mo), (3, .ref eo), (4, .int p0), (6, .int x15), (7, .int x120), (10, .long x121), (12, .int x40), (13, .long x47), (15, .int v74)]) [0, 1, 2, 3, 4, 5, 6, 7, 8, 9] rfl ?_
                                      refine z_widen (k := ((0 + 98 + 12 * (16 - (n343 + 1))) + 10)) (n := ((0 + 588 + 72 * (16 - (n343 + 1))) + 60)) (by omega) (by omega) ?_
                                      exact hj148  s142 hS143 hw
                                    · have hw := hw.2 hc
                                      refine z_aload_n C 1 dL_areSound_534 rfl ?_
                                      refine z_iconst C 1 dL_areSound_535 (by decide) ?_
                                      obtain ⟨b169, hw⟩ := hw
                                      refine z_iald C 0 0 rfl rfl b169 dL_areSound_536 ?_
                                      refine z_bipush C 8 dL_areSound_537 (by decide) ?_
                                      refine z_icmp_gt C 553 dL_areSound_539 (by decide) (fun hc => ?_) (fun hc => ?_)
                                      · have hw := hw.1 hc
                                        refine z_sub (lv' := [(0, .ref (a 0)), (1, .ref mo), (3, .ref eo), (4, .int p0), (6, .int x15), (7, .int x120), (10, .long x121), (12, .int x40), (13, .long x47), (15, .int v74)]) [0, 1, 2, 3, 4, 5, 6, 7, 8, 9] rfl ?_
                                        refine z_widen (k := ((0 + 98 + 12 * (16 - (n343 + 1))) + 10)) (n := ((0 + 588 + 72 * (16 - (n343 + 1))) + 60)) (by omega) (by omega) ?_
                                        exact hj148  s142 hS143 hw
                                      · have hw := hw.2 hc
                                        refine z_aload_n C 0 dL_areSound_542 rfl ?_
                                        refine z_iload C 9 dL_areSound_543 rfl ?_
                                        obtain ⟨o173, hj174, ej175, hd176, hw⟩ := hw
                                        refine z_xfi0 C hR hL CL (wr := (zFr g mo to eo m t e)) (wf := WX a g) (u0 := s142) (As := [.int v74]) (c_X4_checkAnew l hst D a g ea s142 v74 _ _ (X_checkAnew hS143 v74)) gL_areSound_X4_checkAnew rfl ⟨by decide +kernel, by decide +kernel, (show (parseMethodDescriptor yX4_checkAnew.desc).map (fun d => d.parameters.length) = some 1 from by decide +kernel)⟩ ⟨Nat.le_of_ble_eq_true rfl, Nat.le_of_ble_eq_true rfl⟩ ⟨by dsimp only; omega, by dsimp only; omega⟩ 0 4 rfl rfl rfl rfl (Nat.le_of_ble_eq_true rfl) dL_areSound_545 (fun E u hx => oX_no (oOb_of (f := aChk A) (P := P) hS143.1 hj174 hd176 ej175) hx) (fun r170 s171 hk => ?_)
                                        refine z_widen (k := ((0 + 98 + 12 * (16 - (n343 + 1))) + 10)) (n := ((0 + 588 + 72 * (16 - (n343 + 1))) + 60)) (by dsimp only; omega) (by dsimp only; omega) ?_
                                        obtain ⟨er170, hS172⟩ := oX_i (oOb_of (f := aChk A) (P := P) hS143.1 hj174 hd176 ej175) hk
                                        have hw := hw r170 er170
                                        refine z_iload C 10 dL_areSound_548 rfl ?_
                                        refine z_icmp_ne C 583 dL_areSound_550 (by decide) (fun hc => ?_) (fun hc => ?_)
                                        · have hw := hw.1 hc
                                          refine z_iconst C 0 dL_areSound_583 (by decide) ?_
                                          refine z_topi (fun x177 ex177 => ?_)
                                          have hw := hw x177 ex177
                                          refine z_istore (lv' := [(5, .int x177), (0, .ref (a 0)), (1, .ref mo), (3, .ref eo), (4, .int p0), (6, .int x15), (7, .int x120), (10, .long x121), (12, .int x40), (13, .long x47), (15, .int v74), (20, .int x111)]) C dL_areSound_584 (by decide) rfl ?_
                                          obtain ⟨x178, ex178⟩ : ∃ z : Int32, z = v74 + 1 := ⟨_, rfl⟩
                                          have hw := hw x178 ex178
                                          refine z_iinc (lv' := [(15, .int x178), (5, .int x177), (0, .ref (a 0)), (1, .ref mo), (3, .ref eo), (4, .int p0), (6, .int x15), (7, .int x120), (10, .long x121), (12, .int x40), (13, .long x47), (20, .int x111)]) C 10 dL_areSound_586 rfl (by rw [ex178]; rfl) (by decide) rfl ?_
                                          refine z_goto C 343 dL_areSound_589 (by decide) ?_
                                          refine z_sub (lv' := [(0, .ref (a 0)), (1, .ref mo), (3, .ref eo), (4, .int p0), (5, .int x177), (6, .int x15), (7, .int x120), (10, .long x121), (12, .int x40), (13, .long x47), (15, .int x178)]) [2, 3, 4, 5, 1, 6, 7, 8, 9, 10, 0] rfl ?_
                                          refine z_widen (k := ((0 + 98 + 12 * (16 - n343)) + 0)) (n := ((0 + 588 + 72 * (16 - n343)) + 0)) (by omega) (by omega) ?_
                                          exact ih (by omega) _ _ _ _ s171 hS172 hw
                                        · have hw := hw.2 hc
                                          refine z_sub (lv' := [(0, .ref (a 0)), (1, .ref mo), (3, .ref eo), (4, .int p0), (6, .int x15), (7, .int x120), (10, .long x121), (12, .int x40), (13, .long x47), (15, .int v74)]) [0, 1, 2, 3, 4, 5, 6, 7, 8, 9] rfl ?_
                                          exact hj148  s171 hS172 hw
                                  refine z_if_gt C 523 dL_areSound_506 (by decide) (fun hc => ?_) (fun hc => ?_)
                                  · have hw := hw.1 hc
                                    refine z_sub (lv' := [(0, .ref (a 0)), (1, .ref mo), (3, .ref eo), (4, .int p0), (6, .int x15), (7, .int x120), (10, .long x121), (12, .int x40), (13, .long x47), (15, .int v74), (20, .int x111)]) [0, 1, 2, 3, 4, 5, 6, 7, 8, 9, 11] rfl ?_
                                    exact hj141  s137 hS138 hw
                                  · have hw := hw.2 hc
                                    refine z_lload C 12 dL_areSound_509 rfl ?_
                                    refine z_lconst C 0 dL_areSound_511 (by decide) ?_
                                    refine z_lcmp_ne C 583 dL_areSound_512 dL_areSound_513 (by decide) (fun hc => ?_) (fun hc => ?_)
                                    · have hw := hw.1 hc
                                      refine z_iconst C 0 dL_areSound_583 (by decide) ?_
                                      refine z_topi (fun x179 ex179 => ?_)
                                      have hw := hw x179 ex179
                                      refine z_istore (lv' := [(5, .int x179), (0, .ref (a 0)), (1, .ref mo), (3, .ref eo), (4, .int p0), (6, .int x15), (7, .int x120), (10, .long x121), (12, .int x40), (13, .long x47), (15, .int v74), (16, .long x87), (20, .int x111), (21, .long x119)]) C dL_areSound_584 (by decide) rfl ?_
                                      obtain ⟨x180, ex180⟩ : ∃ z : Int32, z = v74 + 1 := ⟨_, rfl⟩
                                      have hw := hw x180 ex180
                                      refine z_iinc (lv' := [(15, .int x180), (5, .int x179), (0, .ref (a 0)), (1, .ref mo), (3, .ref eo), (4, .int p0), (6, .int x15), (7, .int x120), (10, .long x121), (12, .int x40), (13, .long x47), (16, .long x87), (20, .int x111), (21, .long x119)]) C 10 dL_areSound_586 rfl (by rw [ex180]; rfl) (by decide) rfl ?_
                                      refine z_goto C 343 dL_areSound_589 (by decide) ?_
                                      refine z_sub (lv' := [(0, .ref (a 0)), (1, .ref mo), (3, .ref eo), (4, .int p0), (5, .int x179), (6, .int x15), (7, .int x120), (10, .long x121), (12, .int x40), (13, .long x47), (15, .int x180)]) [2, 3, 4, 5, 1, 6, 7, 8, 9, 10, 0] rfl ?_
                                      refine z_widen (k := ((0 + 98 + 12 * (16 - n343)) + 0)) (n := ((0 + 588 + 72 * (16 - n343)) + 0)) (by omega) (by omega) ?_
                                      exact ih (by omega) _ _ _ _ s137 hS138 hw
                                    · have hw := hw.2 hc
                                      refine z_lload C 10 dL_areSound_516 rfl ?_
                                      refine z_lconst C 0 dL_areSound_518 (by decide) ?_
                                      refine z_lcmp_ne C 583 dL_areSound_519 dL_areSound_520 (by decide) (fun hc => ?_) (fun hc => ?_)
                                      · have hw := hw.1 hc
                                        refine z_iconst C 0 dL_areSound_583 (by decide) ?_
                                        refine z_topi (fun x181 ex181 => ?_)
                                        have hw := hw x181 ex181
                                        refine z_istore (lv' := [(5, .int x181), (0, .ref (a 0)), (1, .ref mo), (3, .ref eo), (4, .int p0), (6, .int x15), (7, .int x120), (10, .long x121), (12, .int x40), (13, .long x47), (15, .int v74), (16, .long x87), (20, .int x111), (21, .long x119)]) C dL_areSound_584 (by decide) rfl ?_
                                        obtain ⟨x182, ex182⟩ : ∃ z : Int32, z = v74 + 1 := ⟨_, rfl⟩
                                        have hw := hw x182 ex182
                                        refine z_iinc (lv' := [(15, .int x182), (5, .int x181), (0, .ref (a 0)), (1, .ref mo), (3, .ref eo), (4, .int p0), (6, .int x15), (7, .int x120), (10, .long x121), (12, .int x40), (13, .long x47), (16, .long x87), (20, .int x111), (21, .long x119)]) C 10 dL_areSound_586 rfl (by rw [ex182]; rfl) (by decide) rfl ?_
                                        refine z_goto C 343 dL_areSound_589 (by decide) ?_
                                        refine z_sub (lv' := [(0, .ref (a 0)), (1, .ref mo), (3, .ref eo), (4, .int p0), (5, .int x181), (6, .int x15), (7, .int x120), (10, .long x121), (12, .int x40), (13, .long x47), (15, .int x182)]) [2, 3, 4, 5, 1, 6, 7, 8, 9, 10, 0] rfl ?_
                                        refine z_widen (k := ((0 + 98 + 12 * (16 - n343)) + 0)) (n := ((0 + 588 + 72 * (16 - n343)) + 0)) (by omega) (by omega) ?_
                                        exact ih (by omega) _ _ _ _ s137 hS138 hw
                                      · have hw := hw.2 hc
                                        refine z_sub (lv' := [(0, .ref (a 0)), (1, .ref mo), (3, .ref eo), (4, .int p0), (6, .int x15), (7, .int x120), (10, .long x121), (12, .int x40), (13, .long x47), (15, .int v74), (20, .int x111)]) [0, 1, 2, 3, 4, 5, 6, 7, 8, 9, 11] rfl ?_
                                        exact hj141  s137 hS138 hw
                                refine z_lcmp_lt C 504 dL_areSound_493 dL_areSound_494 (by decide) (fun hc => ?_) (fun hc => ?_)
                                · have hw := hw.1 hc
                                  refine z_sub (lv' := [(0, .ref (a 0)), (1, .ref mo), (3, .ref eo), (4, .int p0), (6, .int x15), (7, .int x120), (10, .long x121), (12, .int x40), (13, .long x47), (15, .int v74), (16, .long x87), (20, .int x111), (21, .long x119)]) [6, 7, 8, 9, 11, 1, 0, 12, 13, 14, 5, 3, 2] rfl ?_
                                  exact hj136  s113 hS114 hw
                                · have hw := hw.2 hc
                                  refine z_iload C 14 dL_areSound_497 rfl ?_
                                  refine z_iload C 12 dL_areSound_499 rfl ?_
                                  refine z_icmp_lt C 583 dL_areSound_501 (by decide) (fun hc => ?_) (fun hc => ?_)
                                  · have hw := hw.1 hc
                                    refine z_iconst C 0 dL_areSound_583 (by decide) ?_
                                    refine z_topi (fun x183 ex183 => ?_)
                                    have hw := hw x183 ex183
                                    refine z_istore (lv' := [(5, .int x183), (10, .long x121), (7, .int x120), (21, .long x119), (20, .int x111), (18, .long x103), (16, .long x87), (0, .ref (a 0)), (1, .ref mo), (3, .ref eo), (4, .int p0), (6, .int x15), (12, .int x40), (13, .long x47), (15, .int v74)]) C dL_areSound_584 (by decide) rfl ?_
                                    obtain ⟨x184, ex184⟩ : ∃ z : Int32, z = v74 + 1 := ⟨_, rfl⟩
                                    have hw := hw x184 ex184
                                    refine z_iinc (lv' := [(15, .int x184), (5, .int x183), (10, .long x121), (7, .int x120), (21, .long x119), (20, .int x111), (18, .long x103), (16, .long x87), (0, .ref (a 0)), (1, .ref mo), (3, .ref eo), (4, .int p0), (6, .int x15), (12, .int x40), (13, .long x47)]) C 14 dL_areSound_586 rfl (by rw [ex184]; rfl) (by decide) rfl ?_
                                    refine z_goto C 343 dL_areSound_589 (by decide) ?_
                                    refine z_sub (lv' := [(0, .ref (a 0)), (1, .ref mo), (3, .ref eo), (4, .int p0), (5, .int x183), (6, .int x15), (7, .int x120), (10, .long x121), (12, .int x40), (13, .long x47), (15, .int x184)]) [8, 9, 10, 11, 1, 12, 3, 2, 13, 14, 0] rfl ?_
                                    refine z_widen (k := ((0 + 98 + 12 * (16 - n343)) + 0)) (n := ((0 + 588 + 72 * (16 - n343)) + 0)) (by omega) (by omega) ?_
                                    exact ih (by omega) _ _ _ _ s113 hS114 hw
                                  · have hw := hw.2 hc
                                    refine z_sub (lv' := [(0, .ref (a 0)), (1, .ref mo), (3, .ref eo), (4, .int p0), (6, .int x15), (7, .int x120), (10, .long x121), (12, .int x40), (13, .long x47), (15, .int v74), (16, .long x87), (20, .int x111), (21, .long x119)]) [6, 7, 8, 9, 11, 1, 0, 12, 13, 14, 5, 3, 2] rfl ?_
                                    exact hj136  s113 hS114 hw
          refine z_widen (k := (0 + 98 + 12 * (16 - n50)) + 0) (n := (0 + 588 + 72 * (16 - n50)) + 0) (by omega) (by omega) ?_
          exact lp54 n50 hn51 _ _ _ _ s45 hS46 hw
        refine z_if_ge C 332 dL_areSound_325 (by decide) (fun hc => ?_) (fun hc => ?_)
        · have hw := hw.1 hc
          refine z_aload_n C 2 dL_areSound_332 rfl ?_
          refine z_iload C 0 dL_areSound_333 rfl ?_
          obtain ⟨o188, hj189, ej190, hd191, hw⟩ := hw
          refine z_xfl0 C hR hL CL (wr := (zFr g mo to eo m t e)) (wf := WX a g) (u0 := s38) (As := [.int x40]) (c_X4_score l hst D a g ea s38 x40 _ _ (X_score hS39 x40)) gL_areSound_X4_score rfl ⟨by decide +kernel, by decide +kernel, (show (parseMethodDescriptor yX4_score.desc).map (fun d => d.parameters.length) = some 1 from by decide +kernel)⟩ ⟨Nat.le_of_ble_eq_true rfl, Nat.le_of_ble_eq_true rfl⟩ ⟨by dsimp only; omega, by dsimp only; omega⟩ 0 4 rfl rfl rfl rfl (Nat.le_of_ble_eq_true rfl) dL_areSound_335 (fun E u hx => oX_no (oOb_of (f := aScr A) (P := P) hS39.1 hj189 hd191 ej190) hx) (fun r185 s186 hk => ?_)
          refine z_widen (k := (0 + 98)) (n := (0 + 588)) (by dsimp only; omega) (by dsimp only; omega) ?_
          obtain ⟨er185, hS187⟩ := oX_l (oOb_of (f := aScr A) (P := P) hS39.1 hj189 hd191 ej190) hk
          have hw := hw r185 er185
          refine z_sub (lv' := [(0, .ref (a 0)), (1, .ref mo), (3, .ref eo), (4, .int p0), (5, .int x36), (6, .int x15), (7, .int x16), (10, .long x18), (12, .int x40)]) [2, 3, 4, 5, 1, 6, 7, 8, 0] rfl ?_
          exact hj43 _ s186 hS187 hw
        · have hw := hw.2 hc
          refine z_lconst C 0 dL_areSound_328 (by decide) ?_
          refine z_goto C 338 dL_areSound_329 (by decide) ?_
          refine z_sub (lv' := [(0, .ref (a 0)), (1, .ref mo), (3, .ref eo), (4, .int p0), (5, .int x36), (6, .int x15), (7, .int x16), (10, .long x18), (12, .int x40)]) [2, 3, 4, 5, 1, 6, 7, 8, 0] rfl ?_
          refine z_widen (k := (0 + 98)) (n := (0 + 588)) (by omega) (by omega) ?_
          exact hj43 _ s38 hS39 hw
      refine z_if_eq C 314 dL_areSound_287 (by decide) (fun hc => ?_) (fun hc => ?_)
      · have hw := hw.1 hc
        refine z_iconst C 0 dL_areSound_314 (by decide) ?_
        refine z_sub (lv' := [(0, .ref (a 0)), (1, .ref mo), (3, .ref eo), (4, .int p0), (6, .int x15), (7, .int x16), (10, .long x18)]) [0, 1, 2, 3, 5, 6, 8] rfl ?_
        exact hj32 _ s28 hS29 hw
      · have hw := hw.2 hc
        refine z_lload C 7 dL_areSound_290 rfl ?_
        refine z_lconst C 0 dL_areSound_292 (by decide) ?_
        refine z_lcmp_gt C 314 dL_areSound_293 dL_areSound_294 (by decide) (fun hc => ?_) (fun hc => ?_)
        · have hw := hw.1 hc
          refine z_iconst C 0 dL_areSound_314 (by decide) ?_
          refine z_sub (lv' := [(0, .ref (a 0)), (1, .ref mo), (3, .ref eo), (4, .int p0), (6, .int x15), (7, .int x16), (10, .long x18)]) [0, 1, 2, 3, 5, 6, 8] rfl ?_
          exact hj32 _ s28 hS29 hw
        · have hw := hw.2 hc
          refine z_lload C 7 dL_areSound_297 rfl ?_
          refine z_aload_n C 1 dL_areSound_299 rfl ?_
          refine z_iconst C 0 dL_areSound_300 (by decide) ?_
          obtain ⟨b192, hw⟩ := hw
          refine z_iald C 0 0 rfl rfl b192 dL_areSound_301 ?_
          refine z_ineg C dL_areSound_302 ?_
          refine z_i2l C dL_areSound_303 ?_
          refine z_lconst C 1 dL_areSound_304 (by decide) ?_
          refine z_lsub C dL_areSound_305 ?_
          refine z_lcmp_le C 314 dL_areSound_306 dL_areSound_307 (by decide) (fun hc => ?_) (fun hc => ?_)
          · have hw := hw.1 hc
            refine z_iconst C 0 dL_areSound_314 (by decide) ?_
            refine z_sub (lv' := [(0, .ref (a 0)), (1, .ref mo), (3, .ref eo), (4, .int p0), (6, .int x15), (7, .int x16), (10, .long x18)]) [0, 1, 2, 3, 5, 6, 8] rfl ?_
            exact hj32 _ s28 hS29 hw
          · have hw := hw.2 hc
            refine z_iconst C 1 dL_areSound_310 (by decide) ?_
            refine z_goto C 315 dL_areSound_311 (by decide) ?_
            refine z_sub (lv' := [(0, .ref (a 0)), (1, .ref mo), (3, .ref eo), (4, .int p0), (6, .int x15), (7, .int x16), (10, .long x18)]) [0, 1, 2, 3, 5, 6, 8] rfl ?_
            exact hj32 _ s28 hS29 hw
    have lp25 : ∀ n35 : Nat, n35 ≤ 16 → ∀ (v193 : Int32) (v194 : Int64) (v195 : Int32) (s196 : zS) (hS197 : ST A P s196), W_L_areSound_L35 A P m t e p0 x15 x16 x18 Q K20 n35 v193 v194 v195 → zV X D 23 ((0 + 0 + 6 * (16 - n35)) + 0) ((0 + 0 + 36 * (16 - n35)) + 0) ((zFr g mo to eo m t e) ++ WX a g s196) 35 [(0, .ref (a 0)), (1, .ref mo), (2, .ref to), (3, .ref eo), (4, .int p0), (5, .int v193), (6, .int x15), (7, .int x16), (8, .long v194), (10, .long x18), (12, .int v195)] [] := by
      intro n35
      induction n35 with
      | zero => intro _ v193 v194 v195 s196 hS197 hw; exact False.elim hw
      | succ n35 ih =>
        intro hn v193 v194 v195 s196 hS197 hw
        have hw : _ := hw
        refine z_iload C 10 dL_areSound_35 rfl ?_
        refine z_aload_n C 1 dL_areSound_37 rfl ?_
        refine z_iconst C 0 dL_areSound_38 (by decide) ?_
        obtain ⟨b198, hw⟩ := hw
        refine z_iald C 0 0 rfl rfl b198 dL_areSound_39 ?_
        refine z_icmp_ge C 285 dL_areSound_40 (by decide) (fun hc => ?_) (fun hc => ?_)
        · have hw := hw.1 hc
          refine z_sub (lv' := [(0, .ref (a 0)), (1, .ref mo), (3, .ref eo), (4, .int p0), (5, .int v193), (6, .int x15), (7, .int x16), (8, .long v194), (10, .long x18)]) [0, 1, 3, 4, 5, 6, 7, 8, 9] rfl ?_
          refine z_widen (k := (0 + 96)) (n := (0 + 576)) (by omega) (by omega) ?_
          exact hx24 _ _ s196 hS197 hw
        · have hw := hw.2 hc
          refine z_iload C 5 dL_areSound_43 rfl ?_
          refine z_if_eq C 285 dL_areSound_45 (by decide) (fun hc => ?_) (fun hc => ?_)
          · have hw := hw.1 hc
            refine z_sub (lv' := [(0, .ref (a 0)), (1, .ref mo), (3, .ref eo), (4, .int p0), (5, .int v193), (6, .int x15), (7, .int x16), (8, .long v194), (10, .long x18)]) [0, 1, 3, 4, 5, 6, 7, 8, 9] rfl ?_
            refine z_widen (k := (0 + 96)) (n := (0 + 576)) (by omega) (by omega) ?_
            exact hx24 _ _ s196 hS197 hw
          · have hw := hw.2 hc
            refine z_aload_n C 0 dL_areSound_48 rfl ?_
            refine z_iload C 10 dL_areSound_49 rfl ?_
            obtain ⟨j202, hj203, ej204, hw⟩ := hw
            refine z_xfl0 C hR hL CL (wr := (zFr g mo to eo m t e)) (wf := WX a g) (u0 := s196) (As := [.int v195]) (c_X4_height l hst D a g ea s196 v195 _ _ (X_height hS197 v195)) gL_areSound_X4_height rfl ⟨by decide +kernel, by decide +kernel, (show (parseMethodDescriptor yX4_height.desc).map (fun d => d.parameters.length) = some 1 from by decide +kernel)⟩ ⟨Nat.le_of_ble_eq_true rfl, Nat.le_of_ble_eq_true rfl⟩ ⟨by dsimp only; omega, by dsimp only; omega⟩ 0 4 rfl rfl rfl rfl (Nat.le_of_ble_eq_true rfl) dL_areSound_51 (fun E u hx => oX_no (oSt_of (f := aHgt A) (P := P) hS197.1 hj203 ej204) hx) (fun r199 s200 hk => ?_)
            refine z_widen (k := ((0 + 0 + 6 * (16 - (n35 + 1))) + 1)) (n := ((0 + 0 + 36 * (16 - (n35 + 1))) + 6)) (by dsimp only; omega) (by dsimp only; omega) ?_
            obtain ⟨er199, hS201⟩ := oX_l (oSt_of (f := aHgt A) (P := P) hS197.1 hj203 ej204) hk
            have hw := hw r199 er199
            refine z_topl (fun x205 ex205 => ?_)
            have hw := hw x205 ex205
            refine z_lstore (lv' := [(13, .long x205), (0, .ref (a 0)), (1, .ref mo), (2, .ref to), (3, .ref eo), (4, .int p0), (5, .int v193), (6, .int x15), (7, .int x16), (8, .long v194), (10, .long x18), (12, .int v195)]) C dL_areSound_54 (by decide) rfl ?_
            refine z_lload C 9 dL_areSound_56 rfl ?_
            refine z_aload_n C 1 dL_areSound_58 rfl ?_
            refine z_iload C 11 dL_areSound_59 rfl ?_
            obtain ⟨j209, hj210, ej211, hw⟩ := hw
            refine z_xfl0 C hR hL CL (wr := (zFr g mo to eo m t e)) (wf := WX a g) (u0 := s200) (As := [.int v195]) (c_X4_free l hst D a g ea s200 v195 _ _ (X_free hS201 v195)) gL_areSound_X4_free rfl ⟨by decide +kernel, by decide +kernel, (show (parseMethodDescriptor yX4_free.desc).map (fun d => d.parameters.length) = some 1 from by decide +kernel)⟩ ⟨Nat.le_of_ble_eq_true rfl, Nat.le_of_ble_eq_true rfl⟩ ⟨by dsimp only; omega, by dsimp only; omega⟩ 0 4 rfl rfl rfl rfl (Nat.le_of_ble_eq_true rfl) dL_areSound_61 (fun E u hx => oX_no (oSt_of (f := aFre A) (P := P) hS201.1 hj210 ej211) hx) (fun r206 s207 hk => ?_)
            refine z_widen (k := ((0 + 0 + 6 * (16 - (n35 + 1))) + 2)) (n := ((0 + 0 + 36 * (16 - (n35 + 1))) + 12)) (by dsimp only; omega) (by dsimp only; omega) ?_
            obtain ⟨er206, hS208⟩ := oX_l (oSt_of (f := aFre A) (P := P) hS201.1 hj210 ej211) hk
            have hw := hw r206 er206
            refine z_ladd C dL_areSound_64 ?_
            refine z_topl (fun x212 ex212 => ?_)
            have hw := hw x212 ex212
            refine z_lstore (lv' := [(8, .long x212), (13, .long x205), (0, .ref (a 0)), (1, .ref mo), (2, .ref to), (3, .ref eo), (4, .int p0), (5, .int v193), (6, .int x15), (7, .int x16), (10, .long x18), (12, .int v195)]) C dL_areSound_65 (by decide) rfl ?_
            refine z_iconst C 1 dL_areSound_67 (by decide) ?_
            refine z_topi (fun x213 ex213 => ?_)
            have hw := hw x213 ex213
            refine z_istore (lv' := [(15, .int x213), (8, .long x212), (13, .long x205), (0, .ref (a 0)), (1, .ref mo), (2, .ref to), (3, .ref eo), (4, .int p0), (5, .int v193), (6, .int x15), (7, .int x16), (10, .long x18), (12, .int v195)]) C dL_areSound_68 (by decide) rfl ?_
            refine z_iconst C 0 dL_areSound_70 (by decide) ?_
            refine z_topi (fun x214 ex214 => ?_)
            have hw := hw x214 ex214
            refine z_istore (lv' := [(16, .int x214), (15, .int x213), (8, .long x212), (13, .long x205), (0, .ref (a 0)), (1, .ref mo), (2, .ref to), (3, .ref eo), (4, .int p0), (5, .int v193), (6, .int x15), (7, .int x16), (10, .long x18), (12, .int v195)]) C dL_areSound_71 (by decide) rfl ?_
            refine z_sub (lv' := [(0, .ref (a 0)), (1, .ref mo), (2, .ref to), (3, .ref eo), (4, .int p0), (6, .int x15), (7, .int x16), (8, .long x212), (10, .long x18), (12, .int v195), (13, .long x205), (15, .int x213), (16, .int x214)]) [4, 5, 6, 7, 8, 10, 11, 2, 12, 13, 3, 1, 0] rfl ?_
            obtain ⟨K215, n216, hn217, hK218, hw⟩ := hw
            have hx219 : ∀ (v221 : Int32) (s222 : zS) (hS223 : ST A P s222), K215 v221 → zV X D 23 ((0 + 0 + 6 * (16 - (n35 + 1))) + 2) ((0 + 0 + 36 * (16 - (n35 + 1))) + 12) ((zFr g mo to eo m t e) ++ WX a g s222) 166 [(0, .ref (a 0)), (1, .ref mo), (2, .ref to), (3, .ref eo), (4, .int p0), (6, .int x15), (7, .int x16), (8, .long x212), (10, .long x18), (12, .int v195), (13, .long x205), (15, .int v221)] [] := by
              intro v221 s222 hS223 hw0
              have hw := hK218 v221 hw0
              refine z_aload_n C 0 dL_areSound_166 rfl ?_
              refine z_iload C 9 dL_areSound_167 rfl ?_
              obtain ⟨j227, hj228, ej229, hw⟩ := hw
              refine z_xfl0 C hR hL CL (wr := (zFr g mo to eo m t e)) (wf := WX a g) (u0 := s222) (As := [.int v195]) (c_X4_trees l hst D a g ea s222 v195 _ _ (X_trees hS223 v195)) gL_areSound_X4_trees rfl ⟨by decide +kernel, by decide +kernel, (show (parseMethodDescriptor yX4_trees.desc).map (fun d => d.parameters.length) = some 1 from by decide +kernel)⟩ ⟨Nat.le_of_ble_eq_true rfl, Nat.le_of_ble_eq_true rfl⟩ ⟨by dsimp only; omega, by dsimp only; omega⟩ 0 4 rfl rfl rfl rfl (Nat.le_of_ble_eq_true rfl) dL_areSound_169 (fun E u hx => oX_no (oSt_of (f := fun t => pT A t 14) (P := P) hS223.1 hj228 ej229) hx) (fun r224 s225 hk => ?_)
              refine z_widen (k := ((0 + 0 + 6 * (16 - (n35 + 1))) + 3)) (n := ((0 + 0 + 36 * (16 - (n35 + 1))) + 18)) (by dsimp only; omega) (by dsimp only; omega) ?_
              obtain ⟨er224, hS226⟩ := oX_l (oSt_of (f := fun t => pT A t 14) (P := P) hS223.1 hj228 ej229) hk
              have hw := hw r224 er224
              refine z_lconst C 0 dL_areSound_172 (by decide) ?_
              refine z_lcmp_le C 276 dL_areSound_173 dL_areSound_174 (by decide) (fun hc => ?_) (fun hc => ?_)
              · have hw := hw.1 hc
                refine z_iconst C 0 dL_areSound_276 (by decide) ?_
                refine z_topi (fun x230 ex230 => ?_)
                have hw := hw x230 ex230
                refine z_istore (lv' := [(5, .int x230), (0, .ref (a 0)), (1, .ref mo), (2, .ref to), (3, .ref eo), (4, .int p0), (6, .int x15), (7, .int x16), (8, .long x212), (10, .long x18), (12, .int v195), (13, .long x205), (15, .int v221)]) C dL_areSound_277 (by decide) rfl ?_
                obtain ⟨x231, ex231⟩ : ∃ z : Int32, z = v195 + 1 := ⟨_, rfl⟩
                have hw := hw x231 ex231
                refine z_iinc (lv' := [(12, .int x231), (5, .int x230), (0, .ref (a 0)), (1, .ref mo), (2, .ref to), (3, .ref eo), (4, .int p0), (6, .int x15), (7, .int x16), (8, .long x212), (10, .long x18), (13, .long x205), (15, .int v221)]) C 10 dL_areSound_279 rfl (by rw [ex231]; rfl) (by decide) rfl ?_
                refine z_goto C 35 dL_areSound_282 (by decide) ?_
                refine z_sub (lv' := [(0, .ref (a 0)), (1, .ref mo), (2, .ref to), (3, .ref eo), (4, .int p0), (5, .int x230), (6, .int x15), (7, .int x16), (8, .long x212), (10, .long x18), (12, .int x231)]) [2, 3, 4, 5, 6, 1, 7, 8, 9, 10, 0] rfl ?_
                refine z_widen (k := ((0 + 0 + 6 * (16 - n35)) + 0)) (n := ((0 + 0 + 36 * (16 - n35)) + 0)) (by omega) (by omega) ?_
                exact ih (by omega) _ _ _ s225 hS226 hw
              · have hw := hw.2 hc
                refine z_iload C 11 dL_areSound_177 rfl ?_
                obtain ⟨k232, hk233, hw⟩ := hw
                have hj234 : ∀ (s235 : zS) (hS236 : ST A P s235), k232  → zV X D 23 ((0 + 0 + 6 * (16 - (n35 + 1))) + 5) ((0 + 0 + 36 * (16 - (n35 + 1))) + 30) ((zFr g mo to eo m t e) ++ WX a g s235) 223 [(0, .ref (a 0)), (1, .ref mo), (2, .ref to), (3, .ref eo), (4, .int p0), (6, .int x15), (7, .int x16), (8, .long x212), (10, .long x18), (12, .int v195), (13, .long x205)] [] := by
                  intro s235 hS236 hw0
                  have hw := hk233  hw0
                  refine z_iload C 9 dL_areSound_223 rfl ?_
                  refine z_iload C 4 dL_areSound_225 rfl ?_
                  refine z_aload_n C 1 dL_areSound_227 rfl ?_
                  refine z_iconst C 0 dL_areSound_228 (by decide) ?_
                  obtain ⟨b237, hw⟩ := hw
                  refine z_iald C 0 0 rfl rfl b237 dL_areSound_229 ?_
                  obtain ⟨b238, hw⟩ := hw
                  refine z_irem C dL_areSound_230 b238 ?_
                  obtain ⟨k239, hk240, hw⟩ := hw
                  have hj241 : ∀ (s242 : zS) (hS243 : ST A P s242), k239  → zV X D 23 ((0 + 0 + 6 * (16 - (n35 + 1))) + 6) ((0 + 0 + 36 * (16 - (n35 + 1))) + 36) ((zFr g mo to eo m t e) ++ WX a g s242) 254 [(0, .ref (a 0)), (1, .ref mo), (2, .ref to), (3, .ref eo), (4, .int p0), (6, .int x15), (7, .int x16), (8, .long x212), (10, .long x18), (12, .int v195), (13, .long x205)] [] := by
                    intro s242 hS243 hw0
                    have hw := hk240  hw0
                    refine z_lload C 10 dL_areSound_254 rfl ?_
                    refine z_ldc2 C (-6000000) (List.mem_of_getElem? (i := 2) rfl) dL_areSound_256 ?_
                    refine z_lcmp_lt C 276 dL_areSound_259 dL_areSound_260 (by decide) (fun hc => ?_) (fun hc => ?_)
                    · have hw := hw.1 hc
                      refine z_iconst C 0 dL_areSound_276 (by decide) ?_
                      refine z_topi (fun x244 ex244 => ?_)
                      have hw := hw x244 ex244
                      refine z_istore (lv' := [(5, .int x244), (0, .ref (a 0)), (1, .ref mo), (2, .ref to), (3, .ref eo), (4, .int p0), (6, .int x15), (7, .int x16), (8, .long x212), (10, .long x18), (12, .int v195), (13, .long x205)]) C dL_areSound_277 (by decide) rfl ?_
                      obtain ⟨x245, ex245⟩ : ∃ z : Int32, z = v195 + 1 := ⟨_, rfl⟩
                      have hw := hw x245 ex245
                      refine z_iinc (lv' := [(12, .int x245), (5, .int x244), (0, .ref (a 0)), (1, .ref mo), (2, .ref to), (3, .ref eo), (4, .int p0), (6, .int x15), (7, .int x16), (8, .long x212), (10, .long x18), (13, .long x205)]) C 10 dL_areSound_279 rfl (by rw [ex245]; rfl) (by decide) rfl ?_
                      refine z_goto C 35 dL_areSound_282 (by decide) ?_
                      refine z_sub (lv' := [(0, .ref (a 0)), (1, .ref mo), (2, .ref to), (3, .ref eo), (4, .int p0), (5, .int x244), (6, .int x15), (7, .int x16), (8, .long x212), (10, .long x18), (12, .int x245)]) [2, 3, 4, 5, 6, 1, 7, 8, 9, 10, 0] rfl ?_
                      refine z_widen (k := ((0 + 0 + 6 * (16 - n35)) + 0)) (n := ((0 + 0 + 36 * (16 - n35)) + 0)) (by omega) (by omega) ?_
                      exact ih (by omega) _ _ _ s242 hS243 hw
                    · have hw := hw.2 hc
                      refine z_lload C 10 dL_areSound_263 rfl ?_
                      refine z_ldc2 C 6000000 (List.mem_of_getElem? (i := 3) rfl) dL_areSound_265 ?_
                      refine z_lcmp_gt C 276 dL_areSound_268 dL_areSound_269 (by decide) (fun hc => ?_) (fun hc => ?_)
                      · have hw := hw.1 hc
                        refine z_iconst C 0 dL_areSound_276 (by decide) ?_
                        refine z_topi (fun x246 ex246 => ?_)
                        have hw := hw x246 ex246
                        refine z_istore (lv' := [(5, .int x246), (0, .ref (a 0)), (1, .ref mo), (2, .ref to), (3, .ref eo), (4, .int p0), (6, .int x15), (7, .int x16), (8, .long x212), (10, .long x18), (12, .int v195), (13, .long x205)]) C dL_areSound_277 (by decide) rfl ?_
                        obtain ⟨x247, ex247⟩ : ∃ z : Int32, z = v195 + 1 := ⟨_, rfl⟩
                        have hw := hw x247 ex247
                        refine z_iinc (lv' := [(12, .int x247), (5, .int x246), (0, .ref (a 0)), (1, .ref mo), (2, .ref to), (3, .ref eo), (4, .int p0), (6, .int x15), (7, .int x16), (8, .long x212), (10, .long x18), (13, .long x205)]) C 10 dL_areSound_279 rfl (by rw [ex247]; rfl) (by decide) rfl ?_
                        refine z_goto C 35 dL_areSound_282 (by decide) ?_
                        refine z_sub (lv' := [(0, .ref (a 0)), (1, .ref mo), (2, .ref to), (3, .ref eo), (4, .int p0), (5, .int x246), (6, .int x15), (7, .int x16), (8, .long x212), (10, .long x18), (12, .int x247)]) [2, 3, 4, 5, 6, 1, 7, 8, 9, 10, 0] rfl ?_
                        refine z_widen (k := ((0 + 0 + 6 * (16 - n35)) + 0)) (n := ((0 + 0 + 36 * (16 - n35)) + 0)) (by omega) (by omega) ?_
                        exact ih (by omega) _ _ _ s242 hS243 hw
                      · have hw := hw.2 hc
                        refine z_iconst C 1 dL_areSound_272 (by decide) ?_
                        refine z_goto C 277 dL_areSound_273 (by decide) ?_
                        refine z_topi (fun x248 ex248 => ?_)
                        have hw := hw x248 ex248
                        refine z_istore (lv' := [(5, .int x248), (0, .ref (a 0)), (1, .ref mo), (2, .ref to), (3, .ref eo), (4, .int p0), (6, .int x15), (7, .int x16), (8, .long x212), (10, .long x18), (12, .int v195), (13, .long x205)]) C dL_areSound_277 (by decide) rfl ?_
                        obtain ⟨x249, ex249⟩ : ∃ z : Int32, z = v195 + 1 := ⟨_, rfl⟩
                        have hw := hw x249 ex249
                        refine z_iinc (lv' := [(12, .int x249), (5, .int x248), (0, .ref (a 0)), (1, .ref mo), (2, .ref to), (3, .ref eo), (4, .int p0), (6, .int x15), (7, .int x16), (8, .long x212), (10, .long x18), (13, .long x205)]) C 10 dL_areSound_279 rfl (by rw [ex249]; rfl) (by decide) rfl ?_
                        refine z_goto C 35 dL_areSound_282 (by decide) ?_
                        refine z_sub (lv' := [(0, .ref (a 0)), (1, .ref mo), (2, .ref to), (3, .ref eo), (4, .int p0), (5, .int x248), (6, .int x15), (7, .int x16), (8, .long x212), (10, .long x18), (12, .int x249)]) [2, 3, 4, 5, 6, 1, 7, 8, 9, 10, 0] rfl ?_
                        refine z_widen (k := ((0 + 0 + 6 * (16 - n35)) + 0)) (n := ((0 + 0 + 36 * (16 - n35)) + 0)) (by omega) (by omega) ?_
                        exact ih (by omega) _ _ _ s242 hS243 hw
                  refine z_icmp_ne C 254 dL_areSound_231 (by decide) (fun hc => ?_) (fun hc => ?_)
                  · have hw := hw.1 hc
                    refine z_widen (k := ((0 + 0 + 6 * (16 - (n35 + 1))) + 6)) (n := ((0 + 0 + 36 * (16 - (n35 + 1))) + 36)) (by omega) (by omega) ?_
                    exact hj241  s235 hS236 hw
                  · have hw := hw.2 hc
                    refine z_aload_n C 1 dL_areSound_234 rfl ?_
                    refine z_iconst C 1 dL_areSound_235 (by decide) ?_
                    obtain ⟨b250, hw⟩ := hw
                    refine z_iald C 0 0 rfl rfl b250 dL_areSound_236 ?_
                    refine z_bipush C 8 dL_areSound_237 (by decide) ?_
                    refine z_icmp_gt C 254 dL_areSound_239 (by decide) (fun hc => ?_) (fun hc => ?_)
                    · have hw := hw.1 hc
                      refine z_widen (k := ((0 + 0 + 6 * (16 - (n35 + 1))) + 6)) (n := ((0 + 0 + 36 * (16 - (n35 + 1))) + 36)) (by omega) (by omega) ?_
                      exact hj241  s235 hS236 hw
                    · have hw := hw.2 hc
                      refine z_aload_n C 0 dL_areSound_242 rfl ?_
                      refine z_iload C 9 dL_areSound_243 rfl ?_
                      obtain ⟨j254, hj255, ej256, hw⟩ := hw
                      refine z_xfl0 C hR hL CL (wr := (zFr g mo to eo m t e)) (wf := WX a g) (u0 := s235) (As := [.int v195]) (c_X4_heightAnew l hst D a g ea s235 v195 _ _ (X_heightAnew hS236 v195)) gL_areSound_X4_heightAnew rfl ⟨by decide +kernel, by decide +kernel, (show (parseMethodDescriptor yX4_heightAnew.desc).map (fun d => d.parameters.length) = some 1 from by decide +kernel)⟩ ⟨Nat.le_of_ble_eq_true rfl, Nat.le_of_ble_eq_true rfl⟩ ⟨by dsimp only; omega, by dsimp only; omega⟩ 0 4 rfl rfl rfl rfl (Nat.le_of_ble_eq_true rfl) dL_areSound_245 (fun E u hx => oX_no (oSt_of (f := aHgt A) (P := P) hS236.1 hj255 ej256) hx) (fun r251 s252 hk => ?_)
                      refine z_widen (k := ((0 + 0 + 6 * (16 - (n35 + 1))) + 6)) (n := ((0 + 0 + 36 * (16 - (n35 + 1))) + 36)) (by dsimp only; omega) (by dsimp only; omega) ?_
                      obtain ⟨er251, hS253⟩ := oX_l (oSt_of (f := aHgt A) (P := P) hS236.1 hj255 ej256) hk
                      have hw := hw r251 er251
                      refine z_lload C 10 dL_areSound_248 rfl ?_
                      refine z_lcmp_ne C 276 dL_areSound_250 dL_areSound_251 (by decide) (fun hc => ?_) (fun hc => ?_)
                      · have hw := hw.1 hc
                        refine z_iconst C 0 dL_areSound_276 (by decide) ?_
                        refine z_topi (fun x257 ex257 => ?_)
                        have hw := hw x257 ex257
                        refine z_istore (lv' := [(5, .int x257), (0, .ref (a 0)), (1, .ref mo), (2, .ref to), (3, .ref eo), (4, .int p0), (6, .int x15), (7, .int x16), (8, .long x212), (10, .long x18), (12, .int v195), (13, .long x205)]) C dL_areSound_277 (by decide) rfl ?_
                        obtain ⟨x258, ex258⟩ : ∃ z : Int32, z = v195 + 1 := ⟨_, rfl⟩
                        have hw := hw x258 ex258
                        refine z_iinc (lv' := [(12, .int x258), (5, .int x257), (0, .ref (a 0)), (1, .ref mo), (2, .ref to), (3, .ref eo), (4, .int p0), (6, .int x15), (7, .int x16), (8, .long x212), (10, .long x18), (13, .long x205)]) C 10 dL_areSound_279 rfl (by rw [ex258]; rfl) (by decide) rfl ?_
                        refine z_goto C 35 dL_areSound_282 (by decide) ?_
                        refine z_sub (lv' := [(0, .ref (a 0)), (1, .ref mo), (2, .ref to), (3, .ref eo), (4, .int p0), (5, .int x257), (6, .int x15), (7, .int x16), (8, .long x212), (10, .long x18), (12, .int x258)]) [2, 3, 4, 5, 6, 1, 7, 8, 9, 10, 0] rfl ?_
                        refine z_widen (k := ((0 + 0 + 6 * (16 - n35)) + 0)) (n := ((0 + 0 + 36 * (16 - n35)) + 0)) (by omega) (by omega) ?_
                        exact ih (by omega) _ _ _ s252 hS253 hw
                      · have hw := hw.2 hc
                        exact hj241  s252 hS253 hw
                refine z_if_eq C 223 dL_areSound_179 (by decide) (fun hc => ?_) (fun hc => ?_)
                · have hw := hw.1 hc
                  refine z_sub (lv' := [(0, .ref (a 0)), (1, .ref mo), (2, .ref to), (3, .ref eo), (4, .int p0), (6, .int x15), (7, .int x16), (8, .long x212), (10, .long x18), (12, .int v195), (13, .long x205)]) [0, 1, 2, 3, 4, 5, 6, 7, 8, 9, 10] rfl ?_
                  refine z_widen (k := ((0 + 0 + 6 * (16 - (n35 + 1))) + 5)) (n := ((0 + 0 + 36 * (16 - (n35 + 1))) + 30)) (by omega) (by omega) ?_
                  exact hj234  s225 hS226 hw
                · have hw := hw.2 hc
                  refine z_lload C 10 dL_areSound_182 rfl ?_
                  refine z_ldc2 C 100 (List.mem_of_getElem? (i := 1) rfl) dL_areSound_184 ?_
                  refine z_aload_n C 2 dL_areSound_187 rfl ?_
                  refine z_iconst C 2 dL_areSound_188 (by decide) ?_
                  refine z_iload C 9 dL_areSound_189 rfl ?_
                  refine z_imul C dL_areSound_191 ?_
                  refine z_iconst C 1 dL_areSound_192 (by decide) ?_
                  refine z_iadd C dL_areSound_193 ?_
                  obtain ⟨b259, hw⟩ := hw
                  refine z_iald C 1 0 rfl rfl b259 dL_areSound_194 ?_
                  refine z_i2l C dL_areSound_195 ?_
                  refine z_lmul C dL_areSound_196 ?_
                  refine z_lcmp_ne C 276 dL_areSound_197 dL_areSound_198 (by decide) (fun hc => ?_) (fun hc => ?_)
                  · have hw := hw.1 hc
                    refine z_iconst C 0 dL_areSound_276 (by decide) ?_
                    refine z_topi (fun x260 ex260 => ?_)
                    have hw := hw x260 ex260
                    refine z_istore (lv' := [(5, .int x260), (0, .ref (a 0)), (1, .ref mo), (2, .ref to), (3, .ref eo), (4, .int p0), (6, .int x15), (7, .int x16), (8, .long x212), (10, .long x18), (12, .int v195), (13, .long x205), (15, .int v221)]) C dL_areSound_277 (by decide) rfl ?_
                    obtain ⟨x261, ex261⟩ : ∃ z : Int32, z = v195 + 1 := ⟨_, rfl⟩
                    have hw := hw x261 ex261
                    refine z_iinc (lv' := [(12, .int x261), (5, .int x260), (0, .ref (a 0)), (1, .ref mo), (2, .ref to), (3, .ref eo), (4, .int p0), (6, .int x15), (7, .int x16), (8, .long x212), (10, .long x18), (13, .long x205), (15, .int v221)]) C 10 dL_areSound_279 rfl (by rw [ex261]; rfl) (by decide) rfl ?_
                    refine z_goto C 35 dL_areSound_282 (by decide) ?_
                    refine z_sub (lv' := [(0, .ref (a 0)), (1, .ref mo), (2, .ref to), (3, .ref eo), (4, .int p0), (5, .int x260), (6, .int x15), (7, .int x16), (8, .long x212), (10, .long x18), (12, .int x261)]) [2, 3, 4, 5, 6, 1, 7, 8, 9, 10, 0] rfl ?_
                    refine z_widen (k := ((0 + 0 + 6 * (16 - n35)) + 0)) (n := ((0 + 0 + 36 * (16 - n35)) + 0)) (by omega) (by omega) ?_
                    exact ih (by omega) _ _ _ s225 hS226 hw
                  · have hw := hw.2 hc
                    refine z_aload_n C 0 dL_areSound_201 rfl ?_
                    refine z_iload C 9 dL_areSound_202 rfl ?_
                    obtain ⟨j265, hj266, ej267, hw⟩ := hw
                    refine z_xfl0 C hR hL CL (wr := (zFr g mo to eo m t e)) (wf := WX a g) (u0 := s225) (As := [.int v195]) (c_X4_trees l hst D a g ea s225 v195 _ _ (X_trees hS226 v195)) gL_areSound_X4_trees rfl ⟨by decide +kernel, by decide +kernel, (show (parseMethodDescriptor yX4_trees.desc).map (fun d => d.parameters.length) = some 1 from by decide +kernel)⟩ ⟨Nat.le_of_ble_eq_true rfl, Nat.le_of_ble_eq_true rfl⟩ ⟨by dsimp only; omega, by dsimp only; omega⟩ 0 4 rfl rfl rfl rfl (Nat.le_of_ble_eq_true rfl) dL_areSound_204 (fun E u hx => oX_no (oSt_of (f := fun t => pT A t 14) (P := P) hS226.1 hj266 ej267) hx) (fun r262 s263 hk => ?_)
                    refine z_widen (k := ((0 + 0 + 6 * (16 - (n35 + 1))) + 4)) (n := ((0 + 0 + 36 * (16 - (n35 + 1))) + 24)) (by dsimp only; omega) (by dsimp only; omega) ?_
                    obtain ⟨er262, hS264⟩ := oX_l (oSt_of (f := fun t => pT A t 14) (P := P) hS226.1 hj266 ej267) hk
                    have hw := hw r262 er262
                    refine z_lconst C 1 dL_areSound_207 (by decide) ?_
                    refine z_lcmp_ne C 276 dL_areSound_208 dL_areSound_209 (by decide) (fun hc => ?_) (fun hc => ?_)
                    · have hw := hw.1 hc
                      refine z_iconst C 0 dL_areSound_276 (by decide) ?_
                      refine z_topi (fun x268 ex268 => ?_)
                      have hw := hw x268 ex268
                      refine z_istore (lv' := [(5, .int x268), (0, .ref (a 0)), (1, .ref mo), (2, .ref to), (3, .ref eo), (4, .int p0), (6, .int x15), (7, .int x16), (8, .long x212), (10, .long x18), (12, .int v195), (13, .long x205), (15, .int v221)]) C dL_areSound_277 (by decide) rfl ?_
                      obtain ⟨x269, ex269⟩ : ∃ z : Int32, z = v195 + 1 := ⟨_, rfl⟩
                      have hw := hw x269 ex269
                      refine z_iinc (lv' := [(12, .int x269), (5, .int x268), (0, .ref (a 0)), (1, .ref mo), (2, .ref to), (3, .ref eo), (4, .int p0), (6, .int x15), (7, .int x16), (8, .long x212), (10, .long x18), (13, .long x205), (15, .int v221)]) C 10 dL_areSound_279 rfl (by rw [ex269]; rfl) (by decide) rfl ?_
                      refine z_goto C 35 dL_areSound_282 (by decide) ?_
                      refine z_sub (lv' := [(0, .ref (a 0)), (1, .ref mo), (2, .ref to), (3, .ref eo), (4, .int p0), (5, .int x268), (6, .int x15), (7, .int x16), (8, .long x212), (10, .long x18), (12, .int x269)]) [2, 3, 4, 5, 6, 1, 7, 8, 9, 10, 0] rfl ?_
                      refine z_widen (k := ((0 + 0 + 6 * (16 - n35)) + 0)) (n := ((0 + 0 + 36 * (16 - n35)) + 0)) (by omega) (by omega) ?_
                      exact ih (by omega) _ _ _ s263 hS264 hw
                    · have hw := hw.2 hc
                      refine z_aload_n C 0 dL_areSound_212 rfl ?_
                      refine z_iload C 9 dL_areSound_213 rfl ?_
                      obtain ⟨j273, hj274, ej275, hw⟩ := hw
                      refine z_xfl0 C hR hL CL (wr := (zFr g mo to eo m t e)) (wf := WX a g) (u0 := s263) (As := [.int v195]) (c_X4_free l hst D a g ea s263 v195 _ _ (X_free hS264 v195)) gL_areSound_X4_free rfl ⟨by decide +kernel, by decide +kernel, (show (parseMethodDescriptor yX4_free.desc).map (fun d => d.parameters.length) = some 1 from by decide +kernel)⟩ ⟨Nat.le_of_ble_eq_true rfl, Nat.le_of_ble_eq_true rfl⟩ ⟨by dsimp only; omega, by dsimp only; omega⟩ 0 4 rfl rfl rfl rfl (Nat.le_of_ble_eq_true rfl) dL_areSound_215 (fun E u hx => oX_no (oSt_of (f := aFre A) (P := P) hS264.1 hj274 ej275) hx) (fun r270 s271 hk => ?_)
                      refine z_widen (k := ((0 + 0 + 6 * (16 - (n35 + 1))) + 5)) (n := ((0 + 0 + 36 * (16 - (n35 + 1))) + 30)) (by dsimp only; omega) (by dsimp only; omega) ?_
                      obtain ⟨er270, hS272⟩ := oX_l (oSt_of (f := aFre A) (P := P) hS264.1 hj274 ej275) hk
                      have hw := hw r270 er270
                      refine z_lconst C 0 dL_areSound_218 (by decide) ?_
                      refine z_lcmp_ne C 276 dL_areSound_219 dL_areSound_220 (by decide) (fun hc => ?_) (fun hc => ?_)
                      · have hw := hw.1 hc
                        refine z_iconst C 0 dL_areSound_276 (by decide) ?_
                        refine z_topi (fun x276 ex276 => ?_)
                        have hw := hw x276 ex276
                        refine z_istore (lv' := [(5, .int x276), (0, .ref (a 0)), (1, .ref mo), (2, .ref to), (3, .ref eo), (4, .int p0), (6, .int x15), (7, .int x16), (8, .long x212), (10, .long x18), (12, .int v195), (13, .long x205), (15, .int v221)]) C dL_areSound_277 (by decide) rfl ?_
                        obtain ⟨x277, ex277⟩ : ∃ z : Int32, z = v195 + 1 := ⟨_, rfl⟩
                        have hw := hw x277 ex277
                        refine z_iinc (lv' := [(12, .int x277), (5, .int x276), (0, .ref (a 0)), (1, .ref mo), (2, .ref to), (3, .ref eo), (4, .int p0), (6, .int x15), (7, .int x16), (8, .long x212), (10, .long x18), (13, .long x205), (15, .int v221)]) C 10 dL_areSound_279 rfl (by rw [ex277]; rfl) (by decide) rfl ?_
                        refine z_goto C 35 dL_areSound_282 (by decide) ?_
                        refine z_sub (lv' := [(0, .ref (a 0)), (1, .ref mo), (2, .ref to), (3, .ref eo), (4, .int p0), (5, .int x276), (6, .int x15), (7, .int x16), (8, .long x212), (10, .long x18), (12, .int x277)]) [2, 3, 4, 5, 6, 1, 7, 8, 9, 10, 0] rfl ?_
                        refine z_widen (k := ((0 + 0 + 6 * (16 - n35)) + 0)) (n := ((0 + 0 + 36 * (16 - n35)) + 0)) (by omega) (by omega) ?_
                        exact ih (by omega) _ _ _ s271 hS272 hw
                      · have hw := hw.2 hc
                        refine z_sub (lv' := [(0, .ref (a 0)), (1, .ref mo), (2, .ref to), (3, .ref eo), (4, .int p0), (6, .int x15), (7, .int x16), (8, .long x212), (10, .long x18), (12, .int v195), (13, .long x205)]) [0, 1, 2, 3, 4, 5, 6, 7, 8, 9, 10] rfl ?_
                        exact hj234  s271 hS272 hw
            have lp220 : ∀ n73 : Nat, n73 ≤ 16 → ∀ (v278 : Int32) (v279 : Int32) (s280 : zS) (hS281 : ST A P s280), W_L_areSound_L73 A P m t e p0 x15 x16 x212 x18 v195 x205 Q K215 n73 v278 v279 → zV X D 23 (((0 + 0 + 6 * (16 - (n35 + 1))) + 2 + 0 * (16 - n73)) + 0) (((0 + 0 + 36 * (16 - (n35 + 1))) + 12 + 0 * (16 - n73)) + 0) ((zFr g mo to eo m t e) ++ WX a g s280) 73 [(0, .ref (a 0)), (1, .ref mo), (2, .ref to), (3, .ref eo), (4, .int p0), (6, .int x15), (7, .int x16), (8, .long x212), (10, .long x18), (12, .int v195), (13, .long x205), (15, .int v278), (16, .int v279)] [] := by
              intro n73
              induction n73 with
              | zero => intro _ v278 v279 s280 hS281 hw; exact False.elim hw
              | succ n73 ih =>
                intro hn v278 v279 s280 hS281 hw
                have hw : _ := hw
                refine z_iload C 12 dL_areSound_73 rfl ?_
                refine z_aload_n C 1 dL_areSound_75 rfl ?_
                refine z_iconst C 1 dL_areSound_76 (by decide) ?_
                obtain ⟨b282, hw⟩ := hw
                refine z_iald C 0 0 rfl rfl b282 dL_areSound_77 ?_
                refine z_icmp_ge C 166 dL_areSound_78 (by decide) (fun hc => ?_) (fun hc => ?_)
                · have hw := hw.1 hc
                  refine z_sub (lv' := [(0, .ref (a 0)), (1, .ref mo), (2, .ref to), (3, .ref eo), (4, .int p0), (6, .int x15), (7, .int x16), (8, .long x212), (10, .long x18), (12, .int v195), (13, .long x205), (15, .int v278)]) [0, 1, 2, 3, 4, 5, 6, 7, 8, 9, 10, 11] rfl ?_
                  refine z_widen (k := ((0 + 0 + 6 * (16 - (n35 + 1))) + 2)) (n := ((0 + 0 + 36 * (16 - (n35 + 1))) + 12)) (by omega) (by omega) ?_
                  exact hx219 _ s280 hS281 hw
                · have hw := hw.2 hc
                  refine z_aload_n C 3 dL_areSound_81 rfl ?_
                  refine z_iconst C 5 dL_areSound_82 (by decide) ?_
                  refine z_iload C 12 dL_areSound_83 rfl ?_
                  refine z_imul C dL_areSound_85 ?_
                  obtain ⟨b283, hw⟩ := hw
                  refine z_iald C 2 0 rfl rfl b283 dL_areSound_86 ?_
                  refine z_iload C 9 dL_areSound_87 rfl ?_
                  obtain ⟨k284, hk285, hw⟩ := hw
                  have hj286 : ∀ (v287 : Int32) (s288 : zS) (hS289 : ST A P s288), k284 v287 → zV X D 23 (((0 + 0 + 6 * (16 - (n35 + 1))) + 2 + 0 * (16 - (n73 + 1))) + 0) (((0 + 0 + 36 * (16 - (n35 + 1))) + 12 + 0 * (16 - (n73 + 1))) + 0) ((zFr g mo to eo m t e) ++ WX a g s288) 127 [(0, .ref (a 0)), (1, .ref mo), (2, .ref to), (3, .ref eo), (4, .int p0), (6, .int x15), (7, .int x16), (8, .long x212), (10, .long x18), (12, .int v195), (13, .long x205), (15, .int v278), (16, .int v279)] [.int v287] := by
                    intro v287 s288 hS289 hw0
                    have hw := hk285 v287 hw0
                    refine z_topi (fun x290 ex290 => ?_)
                    have hw := hw x290 ex290
                    refine z_istore (lv' := [(17, .int x290), (0, .ref (a 0)), (1, .ref mo), (2, .ref to), (3, .ref eo), (4, .int p0), (6, .int x15), (7, .int x16), (8, .long x212), (10, .long x18), (12, .int v195), (13, .long x205), (15, .int v278), (16, .int v279)]) C dL_areSound_127 (by decide) rfl ?_
                    refine z_iload C 12 dL_areSound_129 rfl ?_
                    refine z_if_eq C 157 dL_areSound_131 (by decide) (fun hc => ?_) (fun hc => ?_)
                    · have hw := hw.1 hc
                      refine z_iconst C 0 dL_areSound_157 (by decide) ?_
                      refine z_topi (fun x291 ex291 => ?_)
                      have hw := hw x291 ex291
                      refine z_istore (lv' := [(15, .int x291), (17, .int x290), (0, .ref (a 0)), (1, .ref mo), (2, .ref to), (3, .ref eo), (4, .int p0), (6, .int x15), (7, .int x16), (8, .long x212), (10, .long x18), (12, .int v195), (13, .long x205), (16, .int v279)]) C dL_areSound_158 (by decide) rfl ?_
                      obtain ⟨x292, ex292⟩ : ∃ z : Int32, z = v279 + 1 := ⟨_, rfl⟩
                      have hw := hw x292 ex292
                      refine z_iinc (lv' := [(16, .int x292), (15, .int x291), (17, .int x290), (0, .ref (a 0)), (1, .ref mo), (2, .ref to), (3, .ref eo), (4, .int p0), (6, .int x15), (7, .int x16), (8, .long x212), (10, .long x18), (12, .int v195), (13, .long x205)]) C 13 dL_areSound_160 rfl (by rw [ex292]; rfl) (by decide) rfl ?_
                      refine z_goto C 73 dL_areSound_163 (by decide) ?_
                      refine z_sub (lv' := [(0, .ref (a 0)), (1, .ref mo), (2, .ref to), (3, .ref eo), (4, .int p0), (6, .int x15), (7, .int x16), (8, .long x212), (10, .long x18), (12, .int v195), (13, .long x205), (15, .int x291), (16, .int x292)]) [3, 4, 5, 6, 7, 8, 9, 10, 11, 12, 13, 1, 0] rfl ?_
                      refine z_widen (k := (((0 + 0 + 6 * (16 - (n35 + 1))) + 2 + 0 * (16 - n73)) + 0)) (n := (((0 + 0 + 36 * (16 - (n35 + 1))) + 12 + 0 * (16 - n73)) + 0)) (by omega) (by omega) ?_
                      exact ih (by omega) _ _ s288 hS289 hw
                    · have hw := hw.2 hc
                      refine z_aload_n C 4 dL_areSound_134 rfl ?_
                      refine z_iconst C 5 dL_areSound_135 (by decide) ?_
                      refine z_iload C 13 dL_areSound_136 rfl ?_
                      refine z_imul C dL_areSound_138 ?_
                      refine z_iconst C 4 dL_areSound_139 (by decide) ?_
                      refine z_iadd C dL_areSound_140 ?_
                      obtain ⟨b293, hw⟩ := hw
                      refine z_iald C 2 0 rfl rfl b293 dL_areSound_141 ?_
                      refine z_iconst C 1 dL_areSound_142 (by decide) ?_
                      refine z_icmp_eq C 153 dL_areSound_143 (by decide) (fun hc => ?_) (fun hc => ?_)
                      · have hw := hw.1 hc
                        refine z_iconst C 1 dL_areSound_153 (by decide) ?_
                        refine z_goto C 158 dL_areSound_154 (by decide) ?_
                        refine z_topi (fun x294 ex294 => ?_)
                        have hw := hw x294 ex294
                        refine z_istore (lv' := [(15, .int x294), (17, .int x290), (0, .ref (a 0)), (1, .ref mo), (2, .ref to), (3, .ref eo), (4, .int p0), (6, .int x15), (7, .int x16), (8, .long x212), (10, .long x18), (12, .int v195), (13, .long x205), (16, .int v279)]) C dL_areSound_158 (by decide) rfl ?_
                        obtain ⟨x295, ex295⟩ : ∃ z : Int32, z = v279 + 1 := ⟨_, rfl⟩
                        have hw := hw x295 ex295
                        refine z_iinc (lv' := [(16, .int x295), (15, .int x294), (17, .int x290), (0, .ref (a 0)), (1, .ref mo), (2, .ref to), (3, .ref eo), (4, .int p0), (6, .int x15), (7, .int x16), (8, .long x212), (10, .long x18), (12, .int v195), (13, .long x205)]) C 13 dL_areSound_160 rfl (by rw [ex295]; rfl) (by decide) rfl ?_
                        refine z_goto C 73 dL_areSound_163 (by decide) ?_
                        refine z_sub (lv' := [(0, .ref (a 0)), (1, .ref mo), (2, .ref to), (3, .ref eo), (4, .int p0), (6, .int x15), (7, .int x16), (8, .long x212), (10, .long x18), (12, .int v195), (13, .long x205), (15, .int x294), (16, .int x295)]) [3, 4, 5, 6, 7, 8, 9, 10, 11, 12, 13, 1, 0] rfl ?_
                        refine z_widen (k := (((0 + 0 + 6 * (16 - (n35 + 1))) + 2 + 0 * (16 - n73)) + 0)) (n := (((0 + 0 + 36 * (16 - (n35 + 1))) + 12 + 0 * (16 - n73)) + 0)) (by omega) (by omega) ?_
                        exact ih (by omega) _ _ s288 hS289 hw
                      · have hw := hw.2 hc
                        refine z_iload C 0 dL_areSound_146 rfl ?_
                        refine z_iload C 10 dL_areSound_148 rfl ?_
                        refine z_icmp_ne C 157 dL_areSound_150 (by decide) (fun hc => ?_) (fun hc => ?_)
                        · have hw := hw.1 hc
                          refine z_iconst C 0 dL_areSound_157 (by decide) ?_
                          refine z_topi (fun x296 ex296 => ?_)
                          have hw := hw x296 ex296
                          refine z_istore (lv' := [(15, .int x296), (17, .int x290), (0, .ref (a 0)), (1, .ref mo), (2, .ref to), (3, .ref eo), (4, .int p0), (6, .int x15), (7, .int x16), (8, .long x212), (10, .long x18), (12, .int v195), (13, .long x205), (16, .int v279)]) C dL_areSound_158 (by decide) rfl ?_
                          obtain ⟨x297, ex297⟩ : ∃ z : Int32, z = v279 + 1 := ⟨_, rfl⟩
                          have hw := hw x297 ex297
                          refine z_iinc (lv' := [(16, .int x297), (15, .int x296), (17, .int x290), (0, .ref (a 0)), (1, .ref mo), (2, .ref to), (3, .ref eo), (4, .int p0), (6, .int x15), (7, .int x16), (8, .long x212), (10, .long x18), (12, .int v195), (13, .long x205)]) C 13 dL_areSound_160 rfl (by rw [ex297]; rfl) (by decide) rfl ?_
                          refine z_goto C 73 dL_areSound_163 (by decide) ?_
                          refine z_sub (lv' := [(0, .ref (a 0)), (1, .ref mo), (2, .ref to), (3, .ref eo), (4, .int p0), (6, .int x15), (7, .int x16), (8, .long x212), (10, .long x18), (12, .int v195), (13, .long x205), (15, .int x296), (16, .int x297)]) [3, 4, 5, 6, 7, 8, 9, 10, 11, 12, 13, 1, 0] rfl ?_
                          refine z_widen (k := (((0 + 0 + 6 * (16 - (n35 + 1))) + 2 + 0 * (16 - n73)) + 0)) (n := (((0 + 0 + 36 * (16 - (n35 + 1))) + 12 + 0 * (16 - n73)) + 0)) (by omega) (by omega) ?_
                          exact ih (by omega) _ _ s288 hS289 hw
                        · have hw := hw.2 hc
                          refine z_iconst C 1 dL_areSound_153 (by decide) ?_
                          refine z_goto C 158 dL_areSound_154 (by decide) ?_
                          refine z_topi (fun x298 ex298 => ?_)
                          have hw := hw x298 ex298
                          refine z_istore (lv' := [(15, .int x298), (17, .int x290), (0, .ref (a 0)), (1, .ref mo), (2, .ref to), (3, .ref eo), (4, .int p0), (6, .int x15), (7, .int x16), (8, .long x212), (10, .long x18), (12, .int v195), (13, .long x205), (16, .int v279)]) C dL_areSound_158 (by decide) rfl ?_
                          obtain ⟨x299, ex299⟩ : ∃ z : Int32, z = v279 + 1 := ⟨_, rfl⟩
                          have hw := hw x299 ex299
                          refine z_iinc (lv' := [(16, .int x299), (15, .int x298), (17, .int x290), (0, .ref (a 0)), (1, .ref mo), (2, .ref to), (3, .ref eo), (4, .int p0), (6, .int x15), (7, .int x16), (8, .long x212), (10, .long x18), (12, .int v195), (13, .long x205)]) C 13 dL_areSound_160 rfl (by rw [ex299]; rfl) (by decide) rfl ?_
                          refine z_goto C 73 dL_areSound_163 (by decide) ?_
                          refine z_sub (lv' := [(0, .ref (a 0)), (1, .ref mo), (2, .ref to), (3, .ref eo), (4, .int p0), (6, .int x15), (7, .int x16), (8, .long x212), (10, .long x18), (12, .int v195), (13, .long x205), (15, .int x298), (16, .int x299)]) [3, 4, 5, 6, 7, 8, 9, 10, 11, 12, 13, 1, 0] rfl ?_
                          refine z_widen (k := (((0 + 0 + 6 * (16 - (n35 + 1))) + 2 + 0 * (16 - n73)) + 0)) (n := (((0 + 0 + 36 * (16 - (n35 + 1))) + 12 + 0 * (16 - n73)) + 0)) (by omega) (by omega) ?_
                          exact ih (by omega) _ _ s288 hS289 hw
                  refine z_icmp_ne C 103 dL_areSound_89 (by decide) (fun hc => ?_) (fun hc => ?_)
                  · have hw := hw.1 hc
                    refine z_aload_n C 3 dL_areSound_103 rfl ?_
                    refine z_iconst C 5 dL_areSound_104 (by decide) ?_
                    refine z_iload C 12 dL_areSound_105 rfl ?_
                    refine z_imul C dL_areSound_107 ?_
                    refine z_iconst C 1 dL_areSound_108 (by decide) ?_
                    refine z_iadd C dL_areSound_109 ?_
                    obtain ⟨b300, hw⟩ := hw
                    refine z_iald C 2 0 rfl rfl b300 dL_areSound_110 ?_
                    refine z_iload C 9 dL_areSound_111 rfl ?_
                    refine z_icmp_ne C 125 dL_areSound_113 (by decide) (fun hc => ?_) (fun hc => ?_)
                    · have hw := hw.1 hc
                      refine z_iload C 9 dL_areSound_125 rfl ?_
                      exact hj286 _ s280 hS281 hw
                    · have hw := hw.2 hc
                      refine z_aload_n C 3 dL_areSound_116 rfl ?_
                      refine z_iconst C 5 dL_areSound_117 (by decide) ?_
                      refine z_iload C 12 dL_areSound_118 rfl ?_
                      refine z_imul C dL_areSound_120 ?_
                      obtain ⟨b301, hw⟩ := hw
                      refine z_iald C 2 0 rfl rfl b301 dL_areSound_121 ?_
                      refine z_goto C 127 dL_areSound_122 (by decide) ?_
                      exact hj286 _ s280 hS281 hw
                  · have hw := hw.2 hc
                    refine z_aload_n C 3 dL_areSound_92 rfl ?_
                    refine z_iconst C 5 dL_areSound_93 (by decide) ?_
                    refine z_iload C 12 dL_areSound_94 rfl ?_
                    refine z_imul C dL_areSound_96 ?_
                    refine z_iconst C 1 dL_areSound_97 (by decide) ?_
                    refine z_iadd C dL_areSound_98 ?_
                    obtain ⟨b302, hw⟩ := hw
                    refine z_iald C 2 0 rfl rfl b302 dL_areSound_99 ?_
                    refine z_goto C 127 dL_areSound_100 (by decide) ?_
                    exact hj286 _ s280 hS281 hw
            refine z_widen (k := ((0 + 0 + 6 * (16 - (n35 + 1))) + 2 + 0 * (16 - n216)) + 0) (n := ((0 + 0 + 36 * (16 - (n35 + 1))) + 12 + 0 * (16 - n216)) + 0) (by omega) (by omega) ?_
            exact lp220 n216 hn217 _ _ s207 hS208 hw
    refine z_widen (k := (0 + 0 + 6 * (16 - n21)) + 0) (n := (0 + 0 + 36 * (16 - n21)) + 0) (by omega) (by omega) ?_
    exact lp25 n21 hn22 _ _ _ s13 hS14 hw
  refine z_icmp_ne C 14 dL_areSound_7 (by decide) (fun hc => ?_) (fun hc => ?_)
  · have hw := hw.1 hc
    refine z_iconst C 0 dL_areSound_14 (by decide) ?_
    exact hj7 _ s2 hS3 hw
  · have hw := hw.2 hc
    refine z_iconst C 1 dL_areSound_10 (by decide) ?_
    refine z_goto C 15 dL_areSound_11 (by decide) ?_
    exact hj7 _ s2 hS3 hw

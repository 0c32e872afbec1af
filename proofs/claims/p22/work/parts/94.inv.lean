/-! THE LAW'S NUMBERS: what its arrays hold; what act answers there -/
section ZLI
theorem iI_mul (a b : Int) : iI a * iI b = iI (a * b) := (Int32.ofInt_mul a b).symm
theorem nI_mul (a b : Nat) : nI a * nI b = nI (a * b) := by
  rw [nI_iI, nI_iI, iI_mul, nI_iI]
  exact congrArg iI (by simp)
theorem e5c (k c : Nat) : nI 5 * nI k + nI c = nI (5 * k + c) := by rw [nI_mul, nI_add]
theorem e5_0 (k : Nat) : (5 : Int32) * nI k = nI (5 * k) := nI_mul 5 k
theorem e5_1 (k : Nat) : (5 : Int32) * nI k + 1 = nI (5 * k + 1) := e5c k 1
theorem e5_2 (k : Nat) : (5 : Int32) * nI k + 2 = nI (5 * k + 2) := e5c k 2
theorem e5_3 (k : Nat) : (5 : Int32) * nI k + 3 = nI (5 * k + 3) := e5c k 3
theorem e5_4 (k : Nat) : (5 : Int32) * nI k + 4 = nI (5 * k + 4) := e5c k 4
theorem e2_0 (k : Nat) : (2 : Int32) * nI k = nI (2 * k) := nI_mul 2 k
theorem e2_1 (k : Nat) : (2 : Int32) * nI k + 1 = nI (2 * k + 1) := by
  rw [e2_0]
  exact nI_add (2 * k) 1
theorem nI_nn {x : Int32} (h : 0 ≤ x.toInt) : ∃ a : Nat, a < 2 ^ 31 ∧ x = nI a := by
  have hb := iI_B x
  refine ⟨x.toInt.toNat, by omega, ?_⟩
  rw [nI_iI, ← Int32.toInt_inj, iI_toInt ⟨by omega, by omega⟩]
  omega
theorem nI_div {a b : Nat} (ha : a < 2 ^ 31) (hb : 0 < b) (hb2 : b < 2 ^ 31) : nI a / nI b = nI (a / b) := by
  have h1 : nI b ≠ -1 := fun q => by
    have := congrArg Int32.toInt q
    rw [nI_toInt hb2] at this
    have h2 : (-1 : Int32).toInt = -1 := rfl
    omega
  have h2 := Int32.toInt_div_of_ne_right (nI a) (nI b) h1
  have h3 : a / b ≤ a := Nat.div_le_self a b
  rw [nI_toInt ha, nI_toInt hb2, Int.tdiv_eq_ediv_of_nonneg (by omega)] at h2
  rw [← Int32.toInt_inj, h2, nI_toInt (by omega)]
  simp
theorem nI_irm {a b : Nat} (ha : a < 2 ^ 31) (hb : 0 < b) (hb2 : b < 2 ^ 31) : irm (nI a) (nI b) = nI (a % b) := by
  unfold irm
  rw [nI_div ha hb hb2, nI_mul]
  have h1 := Nat.div_add_mod a b
  have h2 : a / b * b = b * (a / b) := Nat.mul_comm _ _
  have h3 := Nat.mod_lt a hb
  rw [nI_iI, nI_iI, iI_sub, nI_iI]
  exact congrArg iI (by omega)
theorem nI_0n {n : Nat} (h : n < 2 ^ 31) (h0 : 0 < n) : ¬ nI n = 0 := fun q => by
  have := (nI_eq h (by omega)).mp (show nI n = nI 0 from q)
  omega
/-- what the law's arrays hold -/
def LI (A : zNt) (P : zPa) (m t e : Nat → Int32) : Prop := zok A ∧ pok A P ∧ nko A ≤ 12 ∧ m 0 = nI (nnn A) ∧ m 1 = nI (nko A) ∧ m 2 = nI P.1 ∧ m 3 = P.2.2.2 ∧
  (∀ k, k < 6 → t (2 * k) = bI (ntl A k) ∧ t (2 * k + 1) = iI (nth A k)) ∧
  (∀ o, o < nko A → e (5 * o) = nI (nfr A o) ∧ e (5 * o + 1) = nI (nto A o) ∧ e (5 * o + 2) = iI (ndf A o)) ∧ (∀ o, o ≤ 12 → e (5 * o + 4) = bI (nwd A o))
variable {A : zNt} {P : zPa} {m t e : Nat → Int32}
theorem LI.m0 (h : LI A P m t e) : m (ix 0) = nI (nnn A) := h.2.2.2.1
theorem LI.m1 (h : LI A P m t e) : m (ix 1) = nI (nko A) := h.2.2.2.2.1
theorem LI.m2 (h : LI A P m t e) : m (ix 2) = nI P.1 := h.2.2.2.2.2.1
theorem LI.m3 (h : LI A P m t e) : m (ix 3) = P.2.2.2 := h.2.2.2.2.2.2.1
theorem LI.e0 (h : LI A P m t e) {k : Nat} (hk : k < nko A) : e (ix (5 * nI k)) = nI (nfr A k) := by
  have := h.1.2.1
  rw [e5_0, ix_nI (by omega)]
  exact (h.2.2.2.2.2.2.2.2.1 k hk).1
theorem LI.e1 (h : LI A P m t e) {k : Nat} (hk : k < nko A) : e (ix (5 * nI k + 1)) = nI (nto A k) := by
  have := h.1.2.1
  rw [e5_1, ix_nI (by omega)]
  exact (h.2.2.2.2.2.2.2.2.1 k hk).2.1
theorem LI.e2 (h : LI A P m t e) {k : Nat} (hk : k < nko A) : e (ix (5 * nI k + 2)) = iI (ndf A k) := by
  have := h.1.2.1
  rw [e5_2, ix_nI (by omega)]
  exact (h.2.2.2.2.2.2.2.2.1 k hk).2.2
theorem LI.e4 (h : LI A P m t e) {k : Nat} (hk : k ≤ 12) : e (ix (5 * nI k + 4)) = bI (nwd A k) := by
  rw [e5_4, ix_nI (by omega)]
  exact h.2.2.2.2.2.2.2.2.2 k hk
theorem v5_0 {k : Nat} (h : k < 12) : vp_in (5 * nI k) 64 := by rw [e5_0]; exact vp_in_nI (by omega) (by omega)
theorem v5_1 {k : Nat} (h : k < 12) : vp_in (5 * nI k + 1) 64 := by rw [e5_1]; exact vp_in_nI (by omega) (by omega)
theorem v5_2 {k : Nat} (h : k < 12) : vp_in (5 * nI k + 2) 64 := by rw [e5_2]; exact vp_in_nI (by omega) (by omega)
theorem v5_3 {k : Nat} (h : k < 12) : vp_in (5 * nI k + 3) 64 := by rw [e5_3]; exact vp_in_nI (by omega) (by omega)
theorem v5_4 {k : Nat} (h : k < 12) : vp_in (5 * nI k + 4) 64 := by rw [e5_4]; exact vp_in_nI (by omega) (by omega)
theorem vm0 : vp_in 0 4 := vp_in_nI (n := 0) (by decide) (by decide)
theorem vm1 : vp_in 1 4 := vp_in_nI (n := 1) (by decide) (by decide)
theorem vm2 : vp_in 2 4 := vp_in_nI (n := 2) (by decide) (by decide)
theorem vm3 : vp_in 3 4 := vp_in_nI (n := 3) (by decide) (by decide)
/-! act -/
variable {x y c d : Int32}
theorem aAct_0 : aAct A P 0 x y c d = zfin (oStation A P) zcS 0 0 := by unfold aAct; rw [if_pos rfl]
theorem aAct_1 : aAct A P 1 x y c d = zfin (oDatum A P x y (decide (c = 1))) zcB zcA 0 := by unfold aAct; rw [if_neg (by decide), if_pos rfl]
theorem aAct_2 : aAct A P 2 x y c d = zfin (oObserve A P x y c d) zcB zcA zcS := by unfold aAct; rw [if_neg (by decide), if_neg (by decide), if_pos rfl]
theorem aAct_3 : aAct A P 3 x y c d = zfin (oWithdraw A P x (decide (y = 1))) zcB 0 0 := by unfold aAct; rw [if_neg (by decide), if_neg (by decide), if_neg (by decide), if_pos rfl]
theorem aAct_4 : aAct A P 4 x y c d = zfin (oClean A P x) zcA 0 0 := by unfold aAct; rw [if_neg (by decide), if_neg (by decide), if_neg (by decide), if_neg (by decide), if_pos rfl]
theorem aAct_5 : aAct A P 5 x y c d = zfin (oGo A P x) zcB zcS 0 := by unfold aAct; rw [if_neg (by decide), if_neg (by decide), if_neg (by decide), if_neg (by decide), if_neg (by decide), if_pos rfl]
theorem aAct_6 : aAct A P 6 x y c d = zfin (oSt A P (aHgt A) x) zcB 0 0 := by unfold aAct; rw [if_neg (by decide), if_neg (by decide), if_neg (by decide), if_neg (by decide), if_neg (by decide), if_neg (by decide), if_pos rfl]
theorem aAct_7 : aAct A P 7 x y c d = zfin (oSt A P (aHgt A) x) zcB 0 0 := by unfold aAct; rw [if_neg (by decide), if_neg (by decide), if_neg (by decide), if_neg (by decide), if_neg (by decide), if_neg (by decide), if_neg (by decide), if_pos rfl]
theorem aAct_8 : aAct A P 8 x y c d = zfin (oSt A P (aFre A) x) zcB 0 0 := by unfold aAct; rw [if_neg (by decide), if_neg (by decide), if_neg (by decide), if_neg (by decide), if_neg (by decide), if_neg (by decide), if_neg (by decide), if_neg (by decide), if_pos rfl]
theorem aAct_9 : aAct A P 9 x y c d = zfin (oOb A P (aRes A) x) zcB zcS 0 := by unfold aAct; rw [if_neg (by decide), if_neg (by decide), if_neg (by decide), if_neg (by decide), if_neg (by decide), if_neg (by decide), if_neg (by decide), if_neg (by decide), if_neg (by decide), if_pos rfl]
theorem aAct_10 : aAct A P 10 x y c d = zfin (oOb A P (aChk A) x) zcB zcS 0 := by unfold aAct; rw [if_neg (by decide), if_neg (by decide), if_neg (by decide), if_neg (by decide), if_neg (by decide), if_neg (by decide), if_neg (by decide), if_neg (by decide), if_neg (by decide), if_neg (by decide), if_pos rfl]
theorem aAct_11 : aAct A P 11 x y c d = zfin (oOb A P (aChk A) x) zcB zcS 0 := by unfold aAct; rw [if_neg (by decide), if_neg (by decide), if_neg (by decide), if_neg (by decide), if_neg (by decide), if_neg (by decide), if_neg (by decide), if_neg (by decide), if_neg (by decide), if_neg (by decide), if_neg (by decide), if_pos rfl]
theorem aAct_12 : aAct A P 12 x y c d = zfin (oOb A P (aScr A) x) zcB zcS 0 := by unfold aAct; rw [if_neg (by decide), if_neg (by decide), if_neg (by decide), if_neg (by decide), if_neg (by decide), if_neg (by decide), if_neg (by decide), if_neg (by decide), if_neg (by decide), if_neg (by decide), if_neg (by decide), if_neg (by decide), if_pos rfl]
theorem aAct_13 : aAct A P 13 x y c d = zfin (oSt A P (fun t => pT A t 14) x) zcB 0 0 := by unfold aAct; rw [if_neg (by decide), if_neg (by decide), if_neg (by decide), if_neg (by decide), if_neg (by decide), if_neg (by decide), if_neg (by decide), if_neg (by decide), if_neg (by decide), if_neg (by decide), if_neg (by decide), if_neg (by decide), if_neg (by decide)]
theorem zopt_no {n : Nat} (h : ¬ (0 ≤ x.toInt ∧ x.toInt < n)) : zopt x n = none := by unfold zopt; rw [if_neg h]
theorem oSt_no {f : Nat → Int} (h : zopt x (nnn A) = none) : oSt A P f x = (1, 0, A, P) := by unfold oSt; rw [h]
theorem oOb_no {f : Nat → Int} (h : zopt x (nko A) = none) : oOb A P f x = (1, 0, A, P) := by unfold oOb; rw [h]
theorem oOb_wd {f : Nat → Int} {k : Nat} (h : zopt x (nko A) = some k) (hw : nwd A k = true) : oOb A P f x = (2, 0, A, P) := by
  unfold oOb
  rw [h]
  dsimp only
  rw [if_pos hw]
theorem oOb_s (f : Nat → Int) : ∃ (k : Nat) (v : Int64), oOb A P f x = (k, v, A, P) := by
  unfold oOb
  split
  · exact ⟨_, _, rfl⟩
  · split
    · exact ⟨_, _, rfl⟩
    · exact ⟨_, _, rfl⟩
theorem r1_B (h : zopt x (nnn A) = none) : aAct A P 1 x y c d = (zcB, A, P) := by
  rw [aAct_1]
  unfold oDatum
  rw [h]
  rfl
theorem r2_B (h : zopt x (nnn A) = none) : aAct A P 2 x y c d = (zcB, A, P) := by
  rw [aAct_2]
  unfold oObserve
  rw [h]
  rfl
theorem r2_B2 (h : zopt y (nnn A) = none) : aAct A P 2 x y c d = (zcB, A, P) := by
  rw [aAct_2]
  unfold oObserve
  rw [h]
  cases zopt x (nnn A) <;> rfl
theorem r3_B (h : zopt x (nko A) = none) : aAct A P 3 x y c d = (zcB, A, P) := by
  rw [aAct_3]
  unfold oWithdraw
  rw [h]
  rfl
theorem r4_A (h : ¬ (0 ≤ x.toInt ∧ x.toInt ≤ 1000000000)) : aAct A P 4 x y c d = (zcA, A, P) := by
  rw [aAct_4]
  unfold oClean
  rw [if_neg h]
  rfl
theorem r5_B (h : zopt x (nnn A) = none) : aAct A P 5 x y c d = (zcB, A, P) := by
  rw [aAct_5]
  unfold oGo
  rw [h]
  rfl
theorem r6_B (h : zopt x (nnn A) = none) : aAct A P 6 x y c d = (zcB, A, P) := by rw [aAct_6, oSt_no h]; rfl
theorem r7_B (h : zopt x (nnn A) = none) : aAct A P 7 x y c d = (zcB, A, P) := by rw [aAct_7, oSt_no h]; rfl
theorem r8_B (h : zopt x (nnn A) = none) : aAct A P 8 x y c d = (zcB, A, P) := by rw [aAct_8, oSt_no h]; rfl
theorem r13_B (h : zopt x (nnn A) = none) : aAct A P 13 x y c d = (zcB, A, P) := by rw [aAct_13, oSt_no h]; rfl
theorem r9_B (h : zopt x (nko A) = none) : aAct A P 9 x y c d = (zcB, A, P) := by rw [aAct_9, oOb_no h]; rfl
theorem r10_B (h : zopt x (nko A) = none) : aAct A P 10 x y c d = (zcB, A, P) := by rw [aAct_10, oOb_no h]; rfl
theorem r11_B (h : zopt x (nko A) = none) : aAct A P 11 x y c d = (zcB, A, P) := by rw [aAct_11, oOb_no h]; rfl
theorem r12_B (h : zopt x (nko A) = none) : aAct A P 12 x y c d = (zcB, A, P) := by rw [aAct_12, oOb_no h]; rfl
theorem r9_S {k : Nat} (h : zopt x (nko A) = some k) (hw : nwd A k = true) : aAct A P 9 x y c d = (zcS, A, P) := by rw [aAct_9, oOb_wd h hw]; rfl
theorem r10_S {k : Nat} (h : zopt x (nko A) = some k) (hw : nwd A k = true) : aAct A P 10 x y c d = (zcS, A, P) := by rw [aAct_10, oOb_wd h hw]; rfl
theorem r11_S {k : Nat} (h : zopt x (nko A) = some k) (hw : nwd A k = true) : aAct A P 11 x y c d = (zcS, A, P) := by rw [aAct_11, oOb_wd h hw]; rfl
theorem r12_S {k : Nat} (h : zopt x (nko A) = some k) (hw : nwd A k = true) : aAct A P 12 x y c d = (zcS, A, P) := by rw [aAct_12, oOb_wd h hw]; rfl
theorem r1_A {k : Nat} (h : zopt x (nnn A) = some k) (hy : zrng y = false) : aAct A P 1 x y 1 d = (zcA, A, P) := by
  rw [aAct_1]
  unfold oDatum
  rw [h]
  dsimp only
  rw [if_pos ⟨by decide, hy⟩]
  rfl
theorem r2_A {i j : Nat} (h1 : zopt x (nnn A) = some i) (h2 : zopt y (nnn A) = some j) (h : i = j ∨ zrng c = false ∨ ¬ (1 ≤ d.toInt ∧ d.toInt ≤ 5)) : aAct A P 2 x y c d = (zcA, A, P) := by
  rw [aAct_2]
  unfold oObserve
  rw [h1, h2]
  dsimp only
  rw [if_pos h]
  rfl
theorem r5_S {k : Nat} (h1 : zopt x (nnn A) = some k) (h : P.1 = 10) : aAct A P 5 x y c d = (zcS, A, P) := by
  rw [aAct_5]
  unfold oGo
  rw [h1]
  dsimp only
  rw [if_pos h]
  rfl
theorem r0_S (h : ¬ nnn A < 6) : aAct A P 0 x y c d = (zcS, A, P) := by
  rw [aAct_0]
  unfold oStation
  rw [if_neg h]
  rfl
theorem zrng_no (h : ¬ (-9999 ≤ y.toInt ∧ y.toInt ≤ 9999)) : zrng y = false := by
  cases hh : zrng y
  · rfl
  · exact absurd ((zrng_iff y).mp hh) h
/-- a call whose answer is known, and that changes nothing -/
theorem act_x {w : Int32} {v : Int64} {Z : Int64 → Prop} (h : aAct A P w x y c d = (v, A, P)) (k : Z v) : (aAct A P w x y c d).2 = (A, P) ∧ ∀ r : Int64, aAct A P w x y c d = (r, A, P) → Z r := by
  refine ⟨by rw [h], fun r hr => ?_⟩
  rw [h] at hr
  have : v = r := congrArg Prod.fst hr
  rw [← this]
  exact k
theorem act_y {w : Int32} {v : Int64} {A2 : zNt} {P2 : zPa} {Z : Int64 → zNt → zPa → Prop} (h : aAct A P w x y c d = (v, A2, P2)) (k : Z v A2 P2) : ∀ (r : Int64) (A' : zNt) (P' : zPa), aAct A P w x y c d = (r, A', P') → Z r A' P' := by
  intro r A' P' hr
  rw [h] at hr
  have h1 : v = r := congrArg Prod.fst hr
  have h2 : A2 = A' := congrArg (fun q => q.2.1) hr
  have h3 : P2 = P' := congrArg (fun q => q.2.2) hr
  rw [← h1, ← h2, ← h3]
  exact k
/-! all: it answers alike while nothing is changed -/
theorem all29 (h : LI A P m t e) : ∀ r k, k + r = nnn A → ∀ v44 : Int64, ∃ v : Int64, ∀ (Q K : Int64 → Prop), K v → W_L_all_L29 A P m t e Q K (r + 1) v44 (nI k)
  | 0, k, hk, v44 => ⟨v44, fun Q K hK => ⟨vm0, br_t (c_le h.m0 (by omega) (by have := h.1.1; omega)) hK⟩⟩
  | r + 1, k, hk, v44 => by
    have hn := h.1.1
    obtain ⟨v, hv⟩ := all29 h r (k + 1) (by omega) (((31 * v44) + lI (aHgt A k)) + (7 * lI (pT A k 14)))
    refine ⟨v, fun Q K hK => ⟨vm0, br_f (c_nle h.m0 (show k < nnn A by omega) (by omega)) ⟨k, by omega, rfl, nm_e ⟨k, by omega, rfl, nm_e (nm_e (nm_r (nI_1 k) (hv Q K hK)))⟩⟩⟩⟩
theorem all70 (h : LI A P m t e) : ∀ r k, k + r = nko A → ∀ v31 : Int64, ∃ v : Int64, ∀ (Q K : Int64 → Prop), K v → W_L_all_L70 A P m t e Q K (r + 1) v31 (nI k)
  | 0, k, hk, v31 => ⟨v31, fun Q K hK => ⟨vm1, br_t (c_le h.m1 (by omega) (by have := h.1.2.1; omega)) hK⟩⟩
  | r + 1, k, hk, v31 => by
    have hn := h.1.2.1
    obtain ⟨k9, v9, e9⟩ := oOb_s (A := A) (P := P) (x := nI k) (aRes A)
    obtain ⟨k10, v10, e10⟩ := oOb_s (A := A) (P := P) (x := nI k) (aChk A)
    have a9 : aAct A P 9 (nI k) 0 0 0 = ((zfin (k9, v9, A, P) zcB zcS 0).1, A, P) := by rw [aAct_9, e9]; rfl
    have a10 : aAct A P 10 (nI k) 0 0 0 = ((zfin (k10, v10, A, P) zcB zcS 0).1, A, P) := by rw [aAct_10, e10]; rfl
    obtain ⟨v, hv⟩ := all70 h r (k + 1) (by omega) (((31 * v31) + (zfin (k9, v9, A, P) zcB zcS 0).1) + (3 * (zfin (k10, v10, A, P) zcB zcS 0).1))
    refine ⟨v, fun Q K hK => ⟨vm1, br_f (c_nle h.m1 (show k < nko A by omega) (by omega)) (act_x a9 (act_x a10 (nm_e (nm_r (nI_1 k) (hv Q K hK)))))⟩⟩
theorem all_ok (h : LI A P m t e) : ∃ v : Int64, ∀ Q : Int64 → Prop, Q v → W_L_all A P m t e Q := by
  have hn := h.1.1
  have hk := h.2.2.1
  obtain ⟨v1, h1⟩ := all29 h (nnn A) 0 (by omega) (((P.2.2.2).toInt64 + (31 * (nI (nprt A)).toInt64)) + (7 * (iI (aWst A (nko A)).1).toInt64))
  obtain ⟨v2, h2⟩ := all70 h (nko A) 0 (by omega) v1
  refine ⟨v2, fun Q hQ => nm_e (nm_e (nm_e (nm_e (nm_e ⟨fun v => v = v1, nnn A + 1, by omega, fun v hv => nm_e ⟨Q, nko A + 1, by omega, fun _ q => q, ?_⟩, h1 Q _ rfl⟩))))⟩
  rw [hv]
  exact h2 Q Q hQ
end ZLI

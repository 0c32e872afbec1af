/-! WHOLE NUMBERS AS INTS AND LONGS; rounding down -/
section ZNUM
abbrev zB (a : Int) : Prop := -9223372036854775808 ≤ a ∧ a < 9223372036854775808
abbrev zB3 (a : Int) : Prop := -2147483648 ≤ a ∧ a < 2147483648
def lI (a : Int) : Int64 := Int64.ofInt a
def iI (a : Int) : Int32 := Int32.ofInt a
def bI (b : Bool) : Int32 := if b = true then 1 else 0
theorem lI_toInt {a : Int} (h : zB a) : (lI a).toInt = a := Int64.toInt_ofInt_of_le (by have := h.1; omega) (by have := h.2; omega)
theorem iI_toInt {a : Int} (h : zB3 a) : (iI a).toInt = a := Int32.toInt_ofInt_of_le (by have := h.1; omega) (by have := h.2; omega)
theorem lI_add (a b : Int) : lI a + lI b = lI (a + b) := (Int64.ofInt_add a b).symm
theorem lI_sub (a b : Int) : lI a - lI b = lI (a - b) := (Int64.ofInt_sub a b).symm
theorem lI_mul (a b : Int) : lI a * lI b = lI (a * b) := (Int64.ofInt_mul a b).symm
theorem lI_neg (a : Int) : -lI a = lI (-a) := (Int64.ofInt_neg a).symm
theorem iI_add (a b : Int) : iI a + iI b = iI (a + b) := (Int32.ofInt_add a b).symm
theorem iI_sub (a b : Int) : iI a - iI b = iI (a - b) := (Int32.ofInt_sub a b).symm
theorem iI_neg (a : Int) : -iI a = iI (-a) := (Int32.ofInt_neg a).symm
theorem lI_0 : (0 : Int64) = lI 0 := rfl
theorem lI_1 : (1 : Int64) = lI 1 := rfl
theorem lI_m1 : (-1 : Int64) = lI (-1) := rfl
theorem lI_100 : (100 : Int64) = lI 100 := rfl
theorem lI_1000 : (1000 : Int64) = lI 1000 := rfl
theorem iI_0 : (0 : Int32) = iI 0 := rfl
theorem iI_1 : (1 : Int32) = iI 1 := rfl
theorem iI_m1 : (-1 : Int32) = iI (-1) := rfl
theorem lI_eq {a b : Int} (ha : zB a) (hb : zB b) : lI a = lI b ↔ a = b := ⟨fun h => by rw [← lI_toInt ha, ← lI_toInt hb, h], fun h => by rw [h]⟩
theorem iI_eq {a b : Int} (ha : zB3 a) (hb : zB3 b) : iI a = iI b ↔ a = b := ⟨fun h => by rw [← iI_toInt ha, ← iI_toInt hb, h], fun h => by rw [h]⟩
theorem lI_le {a b : Int} (ha : zB a) (hb : zB b) : lI a ≤ lI b ↔ a ≤ b := by rw [Int64.le_iff_toInt_le, lI_toInt ha, lI_toInt hb]
theorem lI_lt {a b : Int} (ha : zB a) (hb : zB b) : lI a < lI b ↔ a < b := by rw [Int64.lt_iff_toInt_lt, lI_toInt ha, lI_toInt hb]
theorem iI_le {a b : Int} (ha : zB3 a) (hb : zB3 b) : iI a ≤ iI b ↔ a ≤ b := by rw [Int32.le_iff_toInt_le, iI_toInt ha, iI_toInt hb]
theorem iI_lt {a b : Int} (ha : zB3 a) (hb : zB3 b) : iI a < iI b ↔ a < b := by rw [Int32.lt_iff_toInt_lt, iI_toInt ha, iI_toInt hb]
theorem iI_l {a : Int} (h : zB3 a) : (iI a).toInt64 = lI a := by
  rw [← Int64.toInt_inj, Int32.toInt_toInt64, iI_toInt h, lI_toInt ⟨by have := h.1; omega, by have := h.2; omega⟩]
theorem lI_i (a : Int) : (lI a).toInt32 = iI a := Int64.toInt32_ofInt
theorem nI_iI (n : Nat) : nI n = iI n := Int32.ofInt_eq_ofNat.symm
theorem iI_of (x : Int32) : x = iI x.toInt := (Int32.ofInt_toInt x).symm
theorem lI_of (x : Int64) : x = lI x.toInt := (Int64.ofInt_toInt x).symm
theorem iI_B (x : Int32) : zB3 x.toInt := ⟨by have := Int32.le_toInt x; omega, by have := Int32.toInt_lt x; omega⟩
theorem bI_0 {b : Bool} : bI b = 0 ↔ b = false := by cases b <;> simp [bI]
theorem bI_n0 {b : Bool} : ¬ bI b = 0 ↔ b = true := by cases b <;> simp [bI]
theorem bI_nar (b : Bool) : narrow .boolean (.int (bI b)) = .int (bI b) := by cases b <;> rfl
theorem vn_bI (b : Bool) : vp_nar .boolean (bI b) = bI b := by cases b <;> rfl
theorem vn_0 : vp_nar .boolean 0 = bI false := rfl
theorem vn_1 : vp_nar .boolean 1 = bI true := rfl
theorem bI_eq {a b : Bool} : bI a = bI b ↔ a = b := by cases a <;> cases b <;> simp [bI]
theorem ix_nI {n : Nat} (h : n < 2 ^ 31) : ix (nI n) = n := nI_clamp h
theorem lI_div {a b : Int} (ha : zB a) (hb : 0 < b) (hb2 : zB b) : lI a / lI b = lI (a.tdiv b) := by
  have h1 : lI b ≠ -1 := fun q => by
    have := (lI_eq hb2 (b := -1) ⟨by omega, by omega⟩).mp (q.trans lI_m1)
    omega
  have h2 := Int64.toInt_div_of_ne_right (lI a) (lI b) h1
  rw [lI_toInt ha, lI_toInt hb2] at h2
  rw [lI_of (lI a / lI b), h2]
theorem tdiv_B {a b : Int} (ha : zB a) (hb : 0 < b) : zB (a.tdiv b) := by
  rcases Int.le_total 0 a with h | h
  · have h1 := Int.tdiv_nonneg h (Int.le_of_lt hb)
    have h2 := Int.tdiv_le_self b h
    exact ⟨by omega, by have := ha.2; omega⟩
  · have h0 : 0 ≤ -a := by omega
    have h1 := Int.tdiv_nonneg h0 (Int.le_of_lt hb)
    have h2 := Int.tdiv_le_self b h0
    rw [Int.neg_tdiv] at h1 h2
    exact ⟨by have := ha.1; omega, by omega⟩
theorem zxor_nonneg {x y : Int64} (hy : 0 ≤ y) : 0 ≤ x ^^^ y ↔ 0 ≤ x := by
  have e : ∀ z : Int64, 0 ≤ z ↔ z.toBitVec.msb = false := fun z => by
    rw [Int64.le_iff_toInt_le]
    show (0 : Int64).toInt ≤ z.toBitVec.toInt ↔ _
    rw [show (0 : Int64).toInt = 0 from rfl, BitVec.msb_eq_toInt]
    simp
  rw [e, e, Int64.toBitVec_xor, BitVec.msb_xor, (e y).mp hy]
  simp
/-- the quotient rounded down -/
theorem zfl_tdiv {a b : Int} (hb : 0 < b) : (0 ≤ a → a.tdiv b = a / b) ∧ (¬ 0 ≤ a → a.tdiv b * b = a → a.tdiv b = a / b) ∧ (¬ 0 ≤ a → ¬ a.tdiv b * b = a → a.tdiv b - 1 = a / b) := by
  have e := Int.tdiv_eq_ediv (a := a) (b := b)
  have hs : b.sign = 1 := Int.sign_eq_one_of_pos hb
  refine ⟨fun h => ?_, fun h1 h2 => ?_, fun h1 h2 => ?_⟩
  · rw [if_pos (Or.inl h)] at e
    omega
  · rw [if_pos (Or.inr ⟨a.tdiv b, by rw [Int.mul_comm]; exact h2.symm⟩)] at e
    omega
  · rw [if_neg (fun q => by
      rcases q with q | ⟨c, q⟩
      · exact h1 q
      · apply h2
        rw [q, Int.mul_comm b c, Int.mul_tdiv_cancel c (by omega)])] at e
    omega
theorem zdiv_B {a b : Int} (ha : zB a) (hb : 0 < b) : zB (a / b) := by
  have h1 : a / b ≤ a ∨ a / b ≤ 0 := by
    rcases Int.le_total 0 a with h | h
    · exact Or.inl (Int.ediv_le_self b h)
    · exact Or.inr (by
        have := Int.ediv_le_ediv hb h
        rw [Int.zero_ediv] at this
        exact this)
  have h2 : a ≤ a / b ∨ 0 ≤ a / b := by
    rcases Int.le_total 0 a with h | h
    · exact Or.inr (Int.ediv_nonneg h (Int.le_of_lt hb))
    · refine Or.inl ?_
      rw [Int.le_ediv_iff_mul_le hb]
      have := Int.mul_nonneg (show 0 ≤ -a by omega) (show 0 ≤ b - 1 by omega)
      rw [Int.neg_mul, Int.mul_sub, Int.mul_one] at this
      omega
  exact ⟨by have := ha.1; omega, by have := ha.2; omega⟩
theorem W_floorDiv {s : zS} {a b : Int} (ha : zB a) (hb : 0 < b) (hb2 : zB b) (Q : Int64 → Prop) (h : Q (lI (a / b))) : W_J9_floorDiv_f86c9 s (lI a) (lI b) Q := by
  obtain ⟨f1, f2, f3⟩ := zfl_tdiv (a := a) hb
  have hx : (0 : Int64) ≤ lI a ^^^ lI b ↔ 0 ≤ a := by
    rw [zxor_nonneg (by rw [lI_0, lI_le ⟨by omega, by omega⟩ hb2]; omega), lI_0, lI_le ⟨by omega, by omega⟩ ha]
  have hm : ∀ x2 : Int64, x2 = lI a / lI b → (x2 = lI (a.tdiv b) ∧ (x2 * lI b = lI a ↔ a.tdiv b * b = a)) := fun x2 e => by
    rw [lI_div ha hb hb2] at e
    refine ⟨e, ?_⟩
    rw [e, lI_mul]
    refine lI_eq ?_ ha
    rcases Int.le_total 0 a with h | h
    · have h1 := Int.ediv_mul_le a (b := b) (by omega)
      rw [← f1 h] at h1
      have h2 := Int.mul_nonneg (Int.tdiv_nonneg h (Int.le_of_lt hb)) (Int.le_of_lt hb)
      rcases ha with ⟨_, _⟩
      exact ⟨by omega, by omega⟩
    · have h0 : 0 ≤ -a := by omega
      have h1 := Int.ediv_mul_le (-a) (b := b) (by omega)
      rw [← (zfl_tdiv (a := -a) hb).1 h0] at h1
      have h2 := Int.mul_nonneg (Int.tdiv_nonneg h0 (Int.le_of_lt hb)) (Int.le_of_lt hb)
      rw [Int.neg_tdiv, Int.neg_mul] at h1 h2
      rcases ha with ⟨_, _⟩
      exact ⟨by omega, by omega⟩
  refine ⟨fun q => ?_, fun x2 e => ?_⟩
  · have := (lI_eq hb2 (b := 0) ⟨by omega, by omega⟩).mp q
    omega
  · obtain ⟨m1, m2⟩ := hm x2 e
    refine ⟨fun c => ?_, fun c => ⟨fun d => ?_, fun d => ?_⟩⟩
    · rw [m1, f1 (hx.mp c)]
      exact h
    · rw [m1, f2 (fun q => c (hx.mpr q)) (m2.mp d)]
      exact h
    · rw [m1, lI_1, lI_sub, f3 (fun q => c (hx.mpr q)) (fun q => d (m2.mpr q))]
      exact h
theorem W_roundedDown {s : zS} {a b : Int} (ha : zB a) (hb : 0 < b) (hb2 : zB b) (Q : Int64 → Prop) (h : Q (lI (a / b))) : W_X4_roundedDown s (lI a) (lI b) Q :=
  ⟨fun _ => W_floorDiv ha hb hb2 _ h, fun q => by
    have := (lI_eq hb2 (b := 0) ⟨by omega, by omega⟩).mp q
    omega⟩
end ZNUM

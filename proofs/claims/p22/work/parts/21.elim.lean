/-! ELIMINATION WITHOUT FRACTIONS: each step's division leaves nothing, for there are whole numbers x that solve the leading equations -/
section ZL
def sN (f : Nat → Int) : Nat → Int
  | 0 => 0
  | n + 1 => sN f n + f n
theorem sN_congr {f g : Nat → Int} : ∀ n, (∀ j, j < n → f j = g j) → sN f n = sN g n
  | 0, _ => rfl
  | n + 1, h => by
    simp only [sN]
    rw [sN_congr n (fun j hj => h j (by omega)), h n (by omega)]
theorem sN_add (f g : Nat → Int) : ∀ n, sN (fun j => f j + g j) n = sN f n + sN g n
  | 0 => rfl
  | n + 1 => by
    simp only [sN]
    rw [sN_add f g n]
    omega
theorem sN_smul (k : Int) (f : Nat → Int) : ∀ n, sN (fun j => k * f j) n = k * sN f n
  | 0 => (Int.mul_zero k).symm
  | n + 1 => by
    simp only [sN]
    rw [sN_smul k f n, Int.mul_add]
theorem sN_zero {f : Nat → Int} : ∀ n, (∀ j, j < n → f j = 0) → sN f n = 0
  | 0, _ => rfl
  | n + 1, h => by
    simp only [sN]
    rw [sN_zero n (fun j hj => h j (by omega)), h n (by omega)]
    rfl
/-- a cell of the equations after k steps -/
def zcell (A : Nat → Nat → Int) (d : Nat → Int) (x : Nat → Nat → Nat → Int) (k r m : Nat) : Int :=
  if r < k then x k m r else d k * A r m - sN (fun j => A r j * x k m j) k
/-- what is known of the equations: n rows; the columns m that are looked at after k steps are those with M k m -/
def zdata (n : Nat) (M : Nat → Nat → Prop) (A : Nat → Nat → Int) (d : Nat → Int) (x : Nat → Nat → Nat → Int) : Prop :=
  d 0 = 1 ∧ (∀ k, k < n → M k k) ∧ (∀ k m, M (k + 1) m → M k m) ∧ (∀ k, k < n → d (k + 1) = d k * A k k - sN (fun j => A k j * x k k j) k) ∧
  (∀ k m, k ≤ n → M k m → ∀ r, r < k → sN (fun j => A r j * x k m j) k = d k * A r m) ∧
  (∀ k, k ≤ n → d k ≠ 0 → ∀ y : Nat → Int, (∀ r, r < k → sN (fun j => A r j * y j) k = 0) → ∀ j, j < k → y j = 0)
theorem zcell_0 {n : Nat} {M : Nat → Nat → Prop} {A : Nat → Nat → Int} {d : Nat → Int} {x : Nat → Nat → Nat → Int} (h : zdata n M A d x) (r m : Nat) : zcell A d x 0 r m = A r m := by
  obtain ⟨h0, -⟩ := h
  unfold zcell
  rw [if_neg (by omega), h0]
  simp only [sN]
  omega
theorem zcell_pivot {n : Nat} {M : Nat → Nat → Prop} {A : Nat → Nat → Int} {d : Nat → Int} {x : Nat → Nat → Nat → Int} (h : zdata n M A d x) {k : Nat} (hk : k < n) : zcell A d x k k k = d (k + 1) := by
  obtain ⟨h0, h1, h2, h3, -⟩ := h
  unfold zcell
  rw [if_neg (by omega), h3 k hk]
theorem zstep_sum (A : Nat → Int) (u v : Nat → Int) (D1 q dq : Int) (k : Nat) : sN (fun j => A j * (if j < k then D1 * u j - q * v j else dq)) (k + 1) = D1 * sN (fun j => A j * u j) k - q * sN (fun j => A j * v j) k + A k * dq := by
  simp only [sN]
  rw [if_neg (by omega), sN_congr (g := fun j => D1 * (A j * u j) + (-q) * (A j * v j)) k (fun j hj => by rw [if_pos hj]; grind), sN_add, sN_smul, sN_smul]
  grind
/-- the heart: what solves the next leading equations, times d k -/
theorem zstep_x {n : Nat} {M : Nat → Nat → Prop} {A : Nat → Nat → Int} {d : Nat → Int} {x : Nat → Nat → Nat → Int} (h : zdata n M A d x) {k m : Nat} (hk : k < n) (hd1 : d (k + 1) ≠ 0) (hm : M (k + 1) m) :
    ∀ j, j < k + 1 → d k * x (k + 1) m j = if j < k then d (k + 1) * x k m j - zcell A d x k k m * x k k j else d k * zcell A d x k k m := by
  obtain ⟨h0, h1, h2, h3, h4, h5⟩ := h
  have hc : zcell A d x k k m = d k * A k m - sN (fun j => A k j * x k m j) k := by unfold zcell; rw [if_neg (by omega)]
  generalize zcell A d x k k m = q at hc
  intro j hj
  have key := h5 (k + 1) (by omega) hd1 (fun j => d k * x (k + 1) m j + (-1) * (if j < k then d (k + 1) * x k m j - q * x k k j else d k * q)) (fun r hr => by
    have e1 : sN (fun j => A r j * (d k * x (k + 1) m j + (-1) * (if j < k then d (k + 1) * x k m j - q * x k k j else d k * q))) (k + 1)
        = d k * sN (fun j => A r j * x (k + 1) m j) (k + 1) + (-1) * sN (fun j => A r j * (if j < k then d (k + 1) * x k m j - q * x k k j else d k * q)) (k + 1) := by
      rw [← sN_smul, ← sN_smul, ← sN_add]
      exact sN_congr _ (fun j _ => by grind)
    rw [e1, zstep_sum, h4 (k + 1) m (by omega) hm r hr]
    by_cases hrk : r < k
    · rw [h4 k m (by omega) (h2 _ _ hm) r hrk, h4 k k (by omega) (h1 k hk) r hrk]
      grind
    · have e2 : r = k := by omega
      subst e2
      have e3 := h3 r hk
      generalize sN (fun j => A r j * x r r j) r = S1 at e3 ⊢
      generalize sN (fun j => A r j * x r m j) r = S2 at hc ⊢
      grind) j hj
  grind
theorem zstep {n : Nat} {M : Nat → Nat → Prop} {A : Nat → Nat → Int} {d : Nat → Int} {x : Nat → Nat → Nat → Int} (h : zdata n M A d x) {k m r : Nat} (hk : k < n) (hd1 : d (k + 1) ≠ 0) (hm : M (k + 1) m) (hr : r ≠ k) :
    d k * zcell A d x (k + 1) r m = d (k + 1) * zcell A d x k r m - zcell A d x k r k * zcell A d x k k m := by
  have hx := zstep_x h hk hd1 hm
  obtain ⟨h0, h1, h2, h3, h4, h5⟩ := h
  generalize hq : zcell A d x k k m = q at hx ⊢
  by_cases hrk : r < k
  · unfold zcell
    rw [if_pos (show r < k + 1 by omega), if_pos hrk, if_pos hrk, hx r (by omega), if_pos hrk]
    grind
  · unfold zcell
    rw [if_neg (show ¬ r < k + 1 by omega), if_neg hrk, if_neg hrk]
    have e1 : d k * sN (fun j => A r j * x (k + 1) m j) (k + 1) = sN (fun j => A r j * (if j < k then d (k + 1) * x k m j - q * x k k j else d k * q)) (k + 1) := by
      rw [← sN_smul]
      refine sN_congr _ (fun j hj => ?_)
      rw [← hx j hj]
      grind
    rw [zstep_sum] at e1
    generalize sN (fun j => A r j * x (k + 1) m j) (k + 1) = S0 at e1 ⊢
    generalize sN (fun j => A r j * x k m j) k = S1 at e1 ⊢
    generalize sN (fun j => A r j * x k k j) k = S2 at e1 ⊢
    grind
theorem zstep_p {n : Nat} {M : Nat → Nat → Prop} {A : Nat → Nat → Int} {d : Nat → Int} {x : Nat → Nat → Nat → Int} (h : zdata n M A d x) {k m : Nat} (hk : k < n) (hd : d k ≠ 0) (hd1 : d (k + 1) ≠ 0) (hm : M (k + 1) m) :
    zcell A d x (k + 1) k m = zcell A d x k k m := by
  have hx := zstep_x h hk hd1 hm k (by omega)
  rw [if_neg (by omega)] at hx
  have e : zcell A d x (k + 1) k m = x (k + 1) m k := by unfold zcell; rw [if_pos (by omega)]
  rw [e]
  exact Int.eq_of_mul_eq_mul_left hd hx
end ZL

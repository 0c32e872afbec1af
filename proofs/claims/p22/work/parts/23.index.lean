/-! THE EQUATIONS WITH ROWS THAT ARE STATIONS, OR DUMMIES -/
section ZI
def zU (σ : Nat → Nat) (re : Nat → Bool) : Nat → Nat → Bool
  | 0, _ => false
  | k + 1, s => zU σ re k s || (re k && s == σ k)
def zA (E : List zE) (σ : Nat → Nat) (re : Nat → Bool) (R : Nat) (bv : Nat → Int) (i m : Nat) : Int :=
  if m = R then (if re i = true then bv (σ i) else 0) else if re i = true ∧ re m = true then Lp E (σ i) (σ m) else if i = m then 1 else 0
def zx (S : List Nat) (E : List zE) (d0 : Nat) (σ : Nat → Nat) (re : Nat → Bool) (R : Nat) (xb : Nat → Nat → Int) (k m r : Nat) : Int :=
  if re r = true then (if m = R then xb k (σ r) else if re m = true then - TS S (fun q => q (σ r) - q d0) (zE0 E) (lU (zU σ re k) d0) (zd (σ m)) else 0) else 0
theorem zU_iff (σ : Nat → Nat) (re : Nat → Bool) (s : Nat) : ∀ k, zU σ re k s = true ↔ ∃ i, i < k ∧ re i = true ∧ σ i = s
  | 0 => ⟨fun h => by simp [zU] at h, fun ⟨i, h, _⟩ => by omega⟩
  | k + 1 => by
    simp only [zU, Bool.or_eq_true, Bool.and_eq_true, beq_iff_eq]
    rw [zU_iff σ re s k]
    refine ⟨fun h => ?_, fun ⟨i, h1, h2, h3⟩ => ?_⟩
    · rcases h with ⟨i, h1, h2, h3⟩ | ⟨h1, h2⟩
      · exact ⟨i, by omega, h2, h3⟩
      · exact ⟨k, by omega, h1, h2.symm⟩
    · by_cases e : i = k
      · subst e
        exact Or.inr ⟨h2, h3.symm⟩
      · exact Or.inl ⟨i, by omega, h2, h3⟩
theorem sN_re {σ : Nat → Nat} {re : Nat → Bool} {N : Nat} (f : Nat → Int) : ∀ k, (∀ i, i < k → re i = true → σ i < N) → (∀ i j, i < k → j < k → re i = true → re j = true → σ i = σ j → i = j) →
    sN (fun j => if re j = true then f (σ j) else 0) k = sN (fun s => if zU σ re k s = true then f s else 0) N
  | 0, _, _ => by
    simp only [sN, zU]
    exact (sN_zero N (fun j _ => by simp)).symm
  | k + 1, h1, h2 => by
    have ih := sN_re (σ := σ) (re := re) (N := N) f k (fun i hi => h1 i (by omega)) (fun i j hi hj => h2 i j (by omega) (by omega))
    simp only [sN]
    rw [ih]
    cases hr : re k
    · simp only [zU, hr, Bool.false_and, Bool.or_false]
      simp
    · have hk : zU σ re k (σ k) = false := by
        cases hh : zU σ re k (σ k)
        · rfl
        · obtain ⟨i, h3, h4, h5⟩ := (zU_iff σ re (σ k) k).mp hh
          have := h2 i k (by omega) (by omega) h4 hr h5
          omega
      have hp := sN_pick f (σ k) N
      rw [if_pos (h1 k (by omega) hr)] at hp
      rw [if_pos rfl, ← hp, ← sN_add]
      refine sN_congr N (fun s _ => ?_)
      unfold zd
      by_cases e : σ k = s
      · subst e
        rw [if_pos rfl, hk]
        simp [zU, hr]
      · have e2 : (s == σ k) = false := by simp; exact fun q => e q.symm
        rw [if_neg e]
        simp only [zU, hr, e2, Bool.and_false, Bool.or_false]
        omega
theorem Lp_out {S : List Nat} {E : List zE} (hE : ∀ e ∈ E, e.1 ∈ S ∧ e.2.1 ∈ S) {s : Nat} (hs : s ∉ S) (r : Nat) : Lp E r s = 0 := by
  induction E with
  | nil => rfl
  | cons e E ih =>
    obtain ⟨h1, h2⟩ := hE e List.mem_cons_self
    simp only [Lp]
    rw [ih (fun e he => hE e (List.mem_cons_of_mem _ he))]
    have z1 : zd s e.1 = 0 := by unfold zd; exact if_neg (fun q => hs (by rw [← q]; exact h1))
    have z2 : zd s e.2.1 = 0 := by unfold zd; exact if_neg (fun q => hs (by rw [← q]; exact h2))
    rw [z1, z2]
    simp
def zY (σ : Nat → Nat) (re : Nat → Bool) (y : Nat → Int) : Nat → Nat → Int
  | 0, _ => 0
  | k + 1, s => zY σ re y k s + (if re k = true then zd s (σ k) * y k else 0)
theorem zY_0 (σ : Nat → Nat) (re : Nat → Bool) (y : Nat → Int) (s : Nat) : ∀ k, zU σ re k s = false → zY σ re y k s = 0
  | 0, _ => rfl
  | k + 1, h => by
    simp only [zU, Bool.or_eq_false_iff] at h
    simp only [zY]
    rw [zY_0 σ re y s k h.1]
    cases hr : re k
    · simp
    · have h2 := h.2
      rw [hr] at h2
      have e : σ k ≠ s := fun q => by simp [q] at h2
      unfold zd
      rw [if_neg e]
      simp
theorem zY_at {σ : Nat → Nat} {re : Nat → Bool} (y : Nat → Int) : ∀ k, (∀ i j, i < k → j < k → re i = true → re j = true → σ i = σ j → i = j) → ∀ i, i < k → re i = true → zY σ re y k (σ i) = y i
  | 0, _, i, hi, _ => by omega
  | k + 1, h2, i, hi, hr => by
    simp only [zY]
    by_cases e : i = k
    · subst e
      have hk : zU σ re i (σ i) = false := by
        cases hh : zU σ re i (σ i)
        · rfl
        · obtain ⟨j, h3, h4, h5⟩ := (zU_iff σ re (σ i) i).mp hh
          have := h2 j i (by omega) (by omega) h4 hr h5
          omega
      rw [zY_0 σ re y _ i hk, if_pos hr]
      unfold zd
      rw [if_pos rfl]
      omega
    · rw [zY_at y k (fun i j hi hj => h2 i j (by omega) (by omega)) i (by omega) hr]
      cases hrk : re k
      · simp
      · have e2 : σ k ≠ σ i := fun q => e (h2 i k (by omega) (by omega) hr hrk q.symm)
        unfold zd
        rw [if_neg e2]
        simp
theorem zY_sum {σ : Nat → Nat} {re : Nat → Bool} {N : Nat} (f : Nat → Int) (y : Nat → Int) : ∀ k, (∀ i, i < k → re i = true → σ i < N) → sN (fun s => f s * zY σ re y k s) N = sN (fun j => if re j = true then f (σ j) * y j else 0) k
  | 0, _ => by
    simp only [sN, zY]
    exact sN_zero N (fun j _ => Int.mul_zero _)
  | k + 1, h => by
    have ih := zY_sum (σ := σ) (re := re) (N := N) f y k (fun i hi => h i (by omega))
    simp only [sN]
    rw [← ih]
    cases hr : re k
    · simp only [zY, hr]
      simp
    · have hp := sN_pick (fun s => f s * y k) (σ k) N
      rw [if_pos (h k (by omega) hr)] at hp
      rw [if_pos rfl, ← hp, ← sN_add]
      refine sN_congr N (fun s _ => ?_)
      simp only [zY]
      rw [if_pos hr]
      grind
/-- what is asked of the net, the rows and the right side -/
def zgood (S : List Nat) (E : List zE) (d0 N n : Nat) (σ : Nat → Nat) (re : Nat → Bool) (R : Nat) (bv : Nat → Int) (xb : Nat → Nat → Int) : Prop :=
  (∀ e ∈ E, e.1 ∈ S ∧ e.2.1 ∈ S) ∧ (∀ e ∈ E, 0 < e.2.2.2) ∧ (∀ s ∈ S, s < N) ∧ d0 ∈ S ∧ n ≤ R ∧ (∀ i, i < n → re i = true → σ i ∈ S ∧ σ i ≠ d0) ∧
  (∀ i j, i < n → j < n → re i = true → re j = true → σ i = σ j → i = j) ∧
  (∀ k, k ≤ n → ∀ s ∈ S, zU σ re k s = false → xb k s = 0) ∧
  (∀ k, k ≤ n → ∀ r, zU σ re k r = true → sN (fun j => Lp E r j * xb k j) N = TD S E (lU (zU σ re k) d0) * bv r)
theorem zgood_data {S : List Nat} {E : List zE} {d0 N n : Nat} {σ : Nat → Nat} {re : Nat → Bool} {R : Nat} {bv : Nat → Int} {xb : Nat → Nat → Int} (h : zgood S E d0 N n σ re R bv xb) :
    zdata n (fun k m => (k ≤ m ∧ m < n) ∨ m = R) (zA E σ re R bv) (fun k => TD S E (lU (zU σ re k) d0)) (zx S E d0 σ re R xb) := by
  obtain ⟨hE, hw, hS, hd, hnR, hσ, hinj, hx0, hxb⟩ := h
  have hU0 : ∀ k, k ≤ n → zU σ re k d0 = false := fun k hk => by
    cases hh : zU σ re k d0
    · rfl
    · obtain ⟨i, h1, h2, h3⟩ := (zU_iff σ re d0 k).mp hh
      exact absurd h3 (hσ i (by omega) h2).2
  have hUS : ∀ k, k ≤ n → ∀ s, zU σ re k s = true → s ∈ S := fun k hk s hs => by
    obtain ⟨i, h1, h2, h3⟩ := (zU_iff σ re s k).mp hs
    rw [← h3]
    exact (hσ i (by omega) h2).1
  have hnot : ∀ k m, k ≤ m → m < n → re m = true → zU σ re k (σ m) = false := fun k m hk hm hr => by
    cases hh : zU σ re k (σ m)
    · rfl
    · obtain ⟨i, h1, h2, h3⟩ := (zU_iff σ re (σ m) k).mp hh
      have := hinj i m (by omega) hm h2 hr h3
      omega
  have hsum : ∀ k, k ≤ n → ∀ f : Nat → Int, sN (fun j => if re j = true then f (σ j) else 0) k = sN (fun s => if zU σ re k s = true then f s else 0) N := fun k hk f =>
    sN_re f k (fun i hi hr => hS _ (hσ i (by omega) hr).1) (fun i j hi hj => hinj i j (by omega) (by omega))
  -- the columns that are stations
  have hcol : ∀ k m r, k ≤ m → m < n → re m = true → r ∈ S → (zU σ re k r = true ∨ r = σ m) → sN (fun s => if zU σ re k s = true then Lp E r s * (- TS S (fun q => q s - q d0) (zE0 E) (lU (zU σ re k) d0) (zd (σ m))) else 0) N
      = - sN (fun s => Lp E r s * TS S (fun q => q s - q d0) (zE0 E) (lU (zU σ re k) d0) (zd (σ m))) N + Lp E r (σ m) * TD S E (lU (zU σ re k) d0) := by
    intro k m r hkm hm hr hrS _
    have hk : k ≤ n := by omega
    have hne := (hσ m hm hr).2
    have hσm := hS _ (hσ m hm hr).1
    have hPm : TS S (fun q => q (σ m) - q d0) (zE0 E) (lU (zU σ re k) d0) (zd (σ m)) = TD S E (lU (zU σ re k) d0) := by
      rw [TP_fixed (hU0 k hk) (hnot k m hkm hm hr), TD_E0]
      unfold zd
      rw [if_pos rfl, if_neg (fun q => hne q.symm)]
      omega
    have hp := sN_pick (fun s => Lp E r s * TS S (fun q => q s - q d0) (zE0 E) (lU (zU σ re k) d0) (zd (σ m))) (σ m) N
    rw [if_pos hσm, hPm] at hp
    rw [← hp, show (- sN (fun s => Lp E r s * TS S (fun q => q s - q d0) (zE0 E) (lU (zU σ re k) d0) (zd (σ m))) N) = (-1) * sN (fun s => Lp E r s * TS S (fun q => q s - q d0) (zE0 E) (lU (zU σ re k) d0) (zd (σ m))) N by omega, ← sN_smul, ← sN_add]
    refine sN_congr N (fun s _ => ?_)
    cases hs : zU σ re k s
    · rw [if_neg (by decide)]
      by_cases e : σ m = s
      · subst e
        unfold zd
        rw [if_pos rfl]
        omega
      · have h0 : Lp E r s * TS S (fun q => q s - q d0) (zE0 E) (lU (zU σ re k) d0) (zd (σ m)) = 0 := by
          by_cases hsS : s ∈ S
          · rw [TP_fixed (hU0 k hk) hs]
            unfold zd
            rw [if_neg (fun q => e q.symm), if_neg (fun q => hne q.symm)]
            simp
          · rw [Lp_out hE hsS, Int.zero_mul]
        rw [h0]
        simp
    · rw [if_pos rfl]
      have e : σ m ≠ s := fun q => by
        have := hnot k m hkm hm hr
        rw [q, hs] at this
        cases this
      unfold zd
      rw [if_neg e]
      grind
  have hcol0 : ∀ k m r, k ≤ m → m < n → re m = true → zU σ re k r = true → sN (fun s => Lp E r s * TS S (fun q => q s - q d0) (zE0 E) (lU (zU σ re k) d0) (zd (σ m))) N = 0 := by
    intro k m r hkm hm hr hU
    have h := Lp_eq (E0_in hE) hS (hU0 k (by omega)) hU (hUS k (by omega) r hU) (zd (σ m))
    rw [Lb_E0, Int.mul_zero, sN_congr (g := fun s => Lp E r s * TS S (fun q => q s - q d0) (zE0 E) (lU (zU σ re k) d0) (zd (σ m))) N (fun j _ => by rw [Lp_E0])] at h
    exact h
  refine ⟨?_, fun k hk => Or.inl ⟨Nat.le_refl k, hk⟩, fun k m h => ?_, fun k hk => ?_, fun k m hk hm r hr => ?_, fun k hk hdk y hy => ?_⟩
  · -- one piece: the empty tree
    show TD S E (lU (zU σ re 0) d0) = 1
    have hlab : lU (zU σ re 0) d0 = fun _ => d0 := by
      funext s
      unfold lU
      simp [zU]
    rw [hlab]
    clear hcol hcol0 hsum hnot hUS hU0 hxb hx0 hlab
    induction E with
    | nil =>
      simp only [TD, TS]
      rw [if_pos (fun s _ t _ => rfl)]
    | cons e E ih =>
      have := ih (fun e he => hE e (List.mem_cons_of_mem _ he)) (fun e he => hw e (List.mem_cons_of_mem _ he))
      simp only [TD, TS] at this ⊢
      rw [this]
      simp
  · rcases h with h | h
    · exact Or.inl ⟨by omega, h.2⟩
    · exact Or.inr h
  · -- the next determinant
    have hkR : k ≠ R := by omega
    show TD S E (lU (zU σ re (k + 1)) d0) = TD S E (lU (zU σ re k) d0) * zA E σ re R bv k k - sN (fun j => zA E σ re R bv k j * zx S E d0 σ re R xb k k j) k
    cases hr : re k
    · have hz : zU σ re (k + 1) = zU σ re k := by
        funext s
        simp [zU, hr]
      rw [hz, sN_zero k (fun j _ => by
        unfold zx
        rw [if_neg hkR, hr]
        simp)]
      unfold zA
      rw [if_neg hkR, if_neg (by rw [hr]; simp), if_pos rfl]
      omega
    · have hz : zU σ re (k + 1) = fun s => zU σ re k s || s == σ k := by
        funext s
        simp [zU, hr]
      obtain ⟨h1, h2⟩ := hσ k hk hr
      rw [hz, TD_step hE hS (hU0 k (by omega)) hd h1 (hnot k k (Nat.le_refl k) hk hr) h2]
      have e1 : sN (fun j => zA E σ re R bv k j * zx S E d0 σ re R xb k k j) k = sN (fun j => if re j = true then (fun s => Lp E (σ k) s * (- TS S (fun q => q s - q d0) (zE0 E) (lU (zU σ re k) d0) (zd (σ k)))) (σ j) else 0) k := by
        refine sN_congr k (fun j hj => ?_)
        unfold zA zx
        rw [if_neg (show ¬ j = R by omega), if_neg hkR]
        cases hrj : re j
        · simp
        · simp [hr]
      have e2 := (e1.trans (hsum k (by omega) (fun s => Lp E (σ k) s * (- TS S (fun q => q s - q d0) (zE0 E) (lU (zU σ re k) d0) (zd (σ k)))))).trans (hcol k k (σ k) (Nat.le_refl k) hk hr h1 (Or.inr rfl))
      rw [e2]
      unfold zA
      rw [if_neg hkR, if_pos ⟨hr, hr⟩]
      have := Int.mul_comm (Lp E (σ k) (σ k)) (TD S E (lU (zU σ re k) d0))
      omega
  · -- what solves the leading equations
    show _ = TD S E (lU (zU σ re k) d0) * _
    cases hrr : re r
    · rw [sN_zero k (fun j hj => by
        unfold zA zx
        rw [if_neg (show ¬ j = R by omega), if_neg (by rw [hrr]; simp)]
        by_cases e : r = j
        · subst e
          rw [hrr]
          simp
        · rw [if_neg e]
          simp)]
      unfold zA
      rcases hm with hm | hm
      · rw [if_neg (show ¬ m = R by omega), if_neg (by rw [hrr]; simp), if_neg (by omega)]
        omega
      · rw [if_pos hm, if_neg (by rw [hrr]; simp)]
        omega
    · have hU : zU σ re k (σ r) = true := (zU_iff σ re (σ r) k).mpr ⟨r, hr, hrr, rfl⟩
      have hrS := hUS k hk _ hU
      rcases hm with hm | hm
      · have hmR : ¬ m = R := by omega
        cases hrm : re m
        · rw [sN_zero k (fun j _ => by
            unfold zx
            rw [if_neg hmR, hrm]
            simp)]
          unfold zA
          rw [if_neg hmR, if_neg (by rw [hrm]; simp), if_neg (by omega)]
          omega
        · have e1 : sN (fun j => zA E σ re R bv r j * zx S E d0 σ re R xb k m j) k = sN (fun j => if re j = true then (fun s => Lp E (σ r) s * (- TS S (fun q => q s - q d0) (zE0 E) (lU (zU σ re k) d0) (zd (σ m)))) (σ j) else 0) k := by
            refine sN_congr k (fun j hj => ?_)
            unfold zA zx
            rw [if_neg (show ¬ j = R by omega), if_neg hmR]
            cases hrj : re j
            · simp
            · simp [hrr, hrm]
          have e2 := (e1.trans (hsum k hk (fun s => Lp E (σ r) s * (- TS S (fun q => q s - q d0) (zE0 E) (lU (zU σ re k) d0) (zd (σ m)))))).trans (hcol k m (σ r) hm.1 hm.2 hrm hrS (Or.inl hU))
          rw [e2, hcol0 k m (σ r) hm.1 hm.2 hrm hU]
          unfold zA
          rw [if_neg hmR, if_pos ⟨hrr, hrm⟩]
          have := Int.mul_comm (Lp E (σ r) (σ m)) (TD S E (lU (zU σ re k) d0))
          omega
      · have e1 : sN (fun j => zA E σ re R bv r j * zx S E d0 σ re R xb k m j) k = sN (fun j => if re j = true then (fun s => Lp E (σ r) s * xb k s) (σ j) else 0) k := by
          refine sN_congr k (fun j hj => ?_)
          unfold zA zx
          rw [if_neg (show ¬ j = R by omega), if_pos hm]
          cases hrj : re j
          · simp
          · simp [hrr]
        have e2 : sN (fun s => if zU σ re k s = true then (fun s => Lp E (σ r) s * xb k s) s else 0) N = sN (fun j => Lp E (σ r) j * xb k j) N := by
          refine sN_congr N (fun s _ => ?_)
          cases hs : zU σ re k s
          · rw [if_neg (by decide)]
            by_cases hsS : s ∈ S
            · rw [hx0 k hk s hsS hs, Int.mul_zero]
            · rw [Lp_out hE hsS, Int.zero_mul]
          · rw [if_pos rfl]
        have e3 := (e1.trans (hsum k hk (fun s => Lp E (σ r) s * xb k s))).trans e2
        rw [e3, hxb k hk _ hU]
        unfold zA
        rw [if_pos hm, if_pos hrr]
  · -- no other solution
    have hj0 : ∀ j, j < k → re j = false → y j = 0 := fun j hj hrj => by
      have h := hy j hj
      have hp := sN_pick y j k
      rw [if_pos hj] at hp
      have h2 : sN (fun i => zA E σ re R bv j i * y i) k = sN (fun i => zd i j * y i) k := sN_congr k (fun i hi => by
        unfold zA zd
        rw [if_neg (show ¬ i = R by omega), if_neg (by rw [hrj]; simp)])
      rw [h2, hp] at h
      exact h
    have hY : ∀ s ∈ S, zY σ re y k s = 0 := by
      refine Lp_one hE hw hS (hU0 k hk) hd (hUS k hk) hdk (zY σ re y k) (fun s hs => zY_0 σ re y s k hs) (fun r hr => ?_)
      obtain ⟨i, h1, h2, h3⟩ := (zU_iff σ re r k).mp hr
      subst h3
      refine (zY_sum (fun s => Lp E (σ i) s) y k (fun i hi hr => hS _ (hσ i (by omega) hr).1)).trans (Eq.trans ?_ (hy i h1))
      refine sN_congr k (fun j hj => ?_)
      unfold zA
      rw [if_neg (show ¬ j = R by omega)]
      cases hrj : re j
      · rw [hj0 j hj hrj]
        simp
      · simp [h2]
    intro j hj
    cases hrj : re j
    · exact hj0 j hj hrj
    · rw [← zY_at (σ := σ) (re := re) y k (fun i j hi hj => hinj i j (by omega) (by omega)) j hj hrj]
      exact hY _ (hσ j (by omega) hrj).1
end ZI

/-! LIMITS OF ALL CELLS OF THE EQUATIONS -/
section ZLIM
def zlim (S : List Nat) (E : List zE) (d0 : Nat) : Prop := (∀ e ∈ E, e.1 ∈ S ∧ e.2.1 ∈ S) ∧ (∀ e ∈ E, 0 < e.2.2.2 ∧ e.2.2.2 ≤ 5) ∧ (∀ s ∈ S, s < 6) ∧ d0 ∈ S ∧ E.length ≤ 14
theorem zcnt_le (S : List Nat) (N : Nat) (lab : Nat → Nat) : zcnt S N lab ≤ N := by
  have h : zcnt S N lab ≤ sN (fun _ => 1) N := sN_le N (fun u _ => by unfold zat; split <;> omega)
  have : ∀ n : Nat, sN (fun _ => 1) n = n := fun n => by
    induction n with
    | zero => rfl
    | succ n ih => simp only [sN]; omega
  rw [this] at h
  exact h
theorem zbe_14 : ∀ j : Nat, j < 6 → zbe j 14 ≤ 6256250 := by decide +kernel
theorem zTD_le {S : List Nat} {E : List zE} {d0 : Nat} (h : zlim S E d0) {U : Nat → Bool} (ris : Nat → Int) : 0 ≤ TS S (fun _ => 1) E (lU U d0) ris ∧ TS S (fun _ => 1) E (lU U d0) ris ≤ 6256250 := by
  obtain ⟨h1, h2, h3, h4, h5⟩ := h
  refine ⟨TD_nonneg E (fun e he => (h2 e he).1) _ _, ?_⟩
  rw [TD_eq S E _ ris (fun _ => 0)]
  have hl : ∀ s ∈ S, lU U d0 s < 6 := fun s hs => by
    unfold lU
    split
    · exact h3 s hs
    · exact h3 d0 h4
  have c1 := zcnt_pos (N := 6) h4 (hl d0 h4)
  have c2 := zcnt_le S 6 (lU U d0)
  obtain ⟨j, hj⟩ : ∃ j : Nat, zcnt S 6 (lU U d0) = j + 1 := ⟨(zcnt S 6 (lU U d0) - 1).toNat, by omega⟩
  have h6 := TD_le h4 E h1 h2 (lU U d0) hl j hj
  have h7 := zbe_mono j h5
  have h8 := zbe_14 j (by omega)
  exact Int.le_trans h6 (Int.le_trans h7 h8)
theorem zprod_le {w a b : Int} (hw : 0 < w ∧ w ≤ 5) (ha : -1 ≤ a ∧ a ≤ 1) (hb : -1 ≤ b ∧ b ≤ 1) : -5 ≤ w * a * b ∧ w * a * b ≤ 5 := by
  rcases (show a = -1 ∨ a = 0 ∨ a = 1 by omega) with rfl | rfl | rfl <;> rcases (show b = -1 ∨ b = 0 ∨ b = 1 by omega) with rfl | rfl | rfl <;> omega
theorem zd_le (r f t : Nat) : -1 ≤ zd r f - zd r t ∧ zd r f - zd r t ≤ 1 := by
  unfold zd
  split <;> split <;> omega
theorem Lp_le {E : List zE} (hw : ∀ e ∈ E, 0 < e.2.2.2 ∧ e.2.2.2 ≤ 5) (r j : Nat) : -(5 * (E.length : Int)) ≤ Lp E r j ∧ Lp E r j ≤ 5 * (E.length : Int) := by
  induction E with
  | nil => simp [Lp]
  | cons e E ih =>
    have ih := ih (fun e he => hw e (List.mem_cons_of_mem _ he))
    have h1 := zprod_le (hw e List.mem_cons_self) (zd_le r e.1 e.2.1) (zd_le j e.1 e.2.1)
    simp only [Lp, List.length_cons]
    omega
theorem zmul_le {a b A B : Int} (ha : -A ≤ a ∧ a ≤ A) (hb : -B ≤ b ∧ b ≤ B) : -(A * B) ≤ a * b ∧ a * b ≤ A * B := by
  have h1 := Int.mul_nonneg (show 0 ≤ A - a by omega) (show 0 ≤ B - b by omega)
  have h2 := Int.mul_nonneg (show 0 ≤ A + a by omega) (show 0 ≤ B + b by omega)
  have h3 := Int.mul_nonneg (show 0 ≤ A - a by omega) (show 0 ≤ B + b by omega)
  have h4 := Int.mul_nonneg (show 0 ≤ A + a by omega) (show 0 ≤ B - b by omega)
  rw [Int.sub_mul, Int.mul_sub, Int.mul_sub] at h1
  rw [Int.add_mul, Int.mul_add, Int.mul_add] at h2
  rw [Int.sub_mul, Int.mul_add, Int.mul_add] at h3
  rw [Int.add_mul, Int.mul_sub, Int.mul_sub] at h4
  omega
theorem sN_abs {f : Nat → Int} {B : Int} (hB : 0 ≤ B) : ∀ n : Nat, (∀ j, j < n → -B ≤ f j ∧ f j ≤ B) → -(n * B) ≤ sN f n ∧ sN f n ≤ n * B
  | 0, _ => by simp [sN]
  | n + 1, h => by
    have h1 := sN_abs hB n (fun j hj => h j (by omega))
    have h2 := h n (by omega)
    have e : ((n + 1 : Nat) : Int) * B = n * B + B := by rw [Int.natCast_add, Int.add_mul]; simp
    simp only [sN]
    rw [e]
    omega
/-- a difference of heights by trees, its observations all 0, one station 1 higher to begin with -/
theorem zP1_le {S : List Nat} {E : List zE} {d0 : Nat} (h : zlim S E d0) {U : Nat → Bool} (c s : Nat) (hs : s ∈ S) :
    -(5 * 6256250) ≤ TS S (fun q => q s - q d0) (zE0 E) (lU U d0) (zd c) ∧ TS S (fun q => q s - q d0) (zE0 E) (lU U d0) (zd c) ≤ 5 * 6256250 := by
  have ht := zTD_le h (U := U) (fun _ => 0)
  obtain ⟨h1, h2, h3, h4, h5⟩ := h
  have hw0 : ∀ e ∈ zE0 E, 0 < e.2.2.2 := fun e he => by
    obtain ⟨e', h1, rfl⟩ := List.mem_map.mp he
    exact (h2 e' h1).1
  have hd0 : ∀ e ∈ zE0 E, -1 ≤ e.2.2.1 ∧ e.2.2.1 ≤ 1 := fun e he => by
    obtain ⟨e', h1, rfl⟩ := List.mem_map.mp he
    show (-1 : Int) ≤ 0 ∧ (0 : Int) ≤ 1
    omega
  have hk := TP_le (N := 6) (c := 1) (by omega) (zE0 E) (E0_in h1) hw0 hd0 (lU U d0) (zd c) (zspr_1 h3 _ c) hs h4
  rw [TD_E0] at hk
  have : TD S E (lU U d0) = TS S (fun _ => 1) E (lU U d0) (fun _ => 0) := rfl
  rw [this] at hk
  omega
theorem zP_le {S : List Nat} {E : List zE} {d0 : Nat} (h : zlim S E d0) {c : Int} (hc : 0 ≤ c) (hd : ∀ e ∈ E, -c ≤ e.2.2.1 ∧ e.2.2.1 ≤ c) {U : Nat → Bool} (a b : Nat) (ha : a ∈ S) (hb : b ∈ S) :
    -(c * 5 * TD S E (lU U d0)) ≤ TS S (fun q => q a - q b) E (lU U d0) (fun _ => 0) ∧ TS S (fun q => q a - q b) E (lU U d0) (fun _ => 0) ≤ c * 5 * TD S E (lU U d0) := by
  obtain ⟨h1, h2, h3, h4, h5⟩ := h
  exact TP_le (N := 6) hc E h1 (fun e he => (h2 e he).1) hd (lU U d0) _ (zspr_0 h3 hc _) ha hb
theorem TL_step {S : List Nat} {E : List zE} (hE : ∀ e ∈ E, e.1 ∈ S ∧ e.2.1 ∈ S) {N : Nat} (hS : ∀ s ∈ S, s < N) {U : Nat → Bool} {d0 c : Nat} (h0 : U d0 = false) (hd : d0 ∈ S) (hc : c ∈ S) (hcU : U c = false) (hcd : c ≠ d0) :
    TS S (fun q => q c - q d0) E (lU (fun s => U s || s == c) d0) (fun _ => 0) = TD S E (lU U d0) * Lb E c - sN (fun j => Lp E c j * TS S (fun q => q j - q d0) E (lU U d0) (fun _ => 0)) N := by
  obtain ⟨V, hV⟩ : ∃ V : Nat → Bool, V = fun s => U s || s == c := ⟨_, rfl⟩
  rw [← hV]
  have hVq : ∀ q, V q = (U q || q == c) := fun q => by rw [hV]
  have hU' : V d0 = false := by rw [hVq]; simp [h0, Ne.symm hcd]
  have hUc : V c = true := by rw [hVq]; simp
  have hne : lU V d0 c ≠ lU V d0 d0 := by
    rw [Ne, lU_eq hU']
    rw [hU', hUc]
    simp [hcd]
  have h := TS_link E hE c d0 0 (lU V d0) (fun _ => 0) hc hd hne
  rw [jr_0] at h
  have hz : zeq (jl c d0 (lU V d0)) (lU U d0) (fun _ => (0 : Int)) (fun _ => 0) := by
    intro s t
    refine ⟨?_, fun _ => rfl⟩
    rw [lU_eq h0 s t]
    have e4 : lU V d0 c = c := by unfold lU; rw [if_pos hUc]
    have f1 : ∀ q, (lU V d0 q = lU V d0 d0) ↔ (U q = false ∧ q ≠ c) := by
      intro q
      rw [lU_eq hU' q d0]
      by_cases h1 : q = d0
      · subst h1; simp [h0, Ne.symm hcd]
      · rw [hVq, hU']; simp [h1]
    have f2 : ∀ q, ¬ (U q = false ∧ q ≠ c) → lU V d0 q = q := by
      intro q hq
      unfold lU
      rw [if_pos]
      rw [hVq]
      by_cases h1 : q = c
      · simp [h1]
      · have : U q = true := by
          cases hh : U q
          · exact absurd ⟨hh, h1⟩ hq
          · rfl
        simp [this]
    have f3 : ∀ q, jl c d0 (lU V d0) q = if U q = true then q else c := fun q => by
      unfold jl
      by_cases g : U q = false ∧ q ≠ c
      · rw [if_pos ((f1 q).mpr g), e4, if_neg (by rw [g.1]; decide)]
      · rw [if_neg (fun r => g ((f1 q).mp r)), f2 q g]
        by_cases h1 : U q = true
        · rw [if_pos h1]
        · rw [if_neg h1]
          have h2 : U q = false := by cases hh : U q; rfl; exact absurd hh h1
          by_cases h3 : q = c
          · exact h3
          · exact absurd ⟨h2, h3⟩ g
    rw [f3, f3]
    by_cases g1 : U s = true <;> by_cases g2 : U t = true
    · rw [if_pos g1, if_pos g2]
      exact ⟨fun q => Or.inl q, fun q => by
        rcases q with q | q
        · exact q
        · rw [g1] at q; cases q.1⟩
    · rw [if_pos g1, if_neg g2]
      refine ⟨fun q => ?_, fun q => ?_⟩
      · rw [q, hcU] at g1; cases g1
      · rcases q with q | q
        · rw [q] at g1; exact absurd g1 g2
        · rw [g1] at q; cases q.1
    · rw [if_neg g1, if_pos g2]
      refine ⟨fun q => ?_, fun q => ?_⟩
      · rw [← q, hcU] at g2; cases g2
      · rcases q with q | q
        · rw [q] at g1; exact absurd g2 g1
        · rw [g2] at q; cases q.2
    · rw [if_neg g1, if_neg g2]
      refine ⟨fun _ => Or.inr ⟨?_, ?_⟩, fun _ => rfl⟩
      · cases hh : U s; rfl; exact absurd hh g1
      · cases hh : U t; rfl; exact absurd hh g2
  have hchi : ∀ s, zchi (lU V d0) c s = zd c s := fun s => zchi_lU hU' hUc s
  rw [TS_zeq (fun r r2 h => VF_inv hE _ r r2 h) _ hz, TS_congr (fun q => VF_ext hchi _ q), VF_VG S _ _ _ _ _ d0, VG_Lp c _ _ N _ (fun e he => ⟨hS _ (hE e he).1, hS _ (hE e he).2⟩)] at h
  have e5 : TS S (fun r => r d0 - r c - 0) E (lU V d0) (fun _ => 0) = - TS S (fun q => q c - q d0) E (lU V d0) (fun _ => 0) := by
    rw [← TS_neg]
    exact TS_congr (fun r => by omega) _ _ _
  rw [e5] at h
  have h9 : (fun s => TS S (fun r => r s - r d0) E (lU U d0) (fun _ => 0)) = fun s => TS S (fun q => q s - q d0) E (lU U d0) (fun _ => 0) := rfl
  omega
/-- all cells are within limits, if those on the right are -/
theorem zcell_le {S : List Nat} {E : List zE} {d0 n : Nat} {σ : Nat → Nat} {re : Nat → Bool} {R : Nat} {bv : Nat → Int} {xb : Nat → Nat → Int} (hl : zlim S E d0) (hn : n ≤ 6) (hσ : ∀ i, i < n → re i = true → σ i ∈ S)
    (hR1 : ∀ k r, k ≤ n → r < n → re r = true → -312781218750 ≤ xb k (σ r) ∧ xb k (σ r) ≤ 312781218750)
    (hR2 : ∀ k r, k ≤ r → r < n → re r = true → -312781218750 ≤ zcell (zA E σ re R bv) (fun k => TD S E (lU (zU σ re k) d0)) (zx S E d0 σ re R xb) k r R ∧ zcell (zA E σ re R bv) (fun k => TD S E (lU (zU σ re k) d0)) (zx S E d0 σ re R xb) k r R ≤ 312781218750)
    {k r m : Nat} (hk : k ≤ n) (hr : r < n) (hm : (k ≤ m ∧ m < n) ∨ m = R) (hRn : n ≤ R) :
    -312781218750 ≤ zcell (zA E σ re R bv) (fun k => TD S E (lU (zU σ re k) d0)) (zx S E d0 σ re R xb) k r m ∧ zcell (zA E σ re R bv) (fun k => TD S E (lU (zU σ re k) d0)) (zx S E d0 σ re R xb) k r m ≤ 312781218750 := by
  have hx : ∀ j, j < n → m ≠ R → -(5 * 6256250) ≤ zx S E d0 σ re R xb k m j ∧ zx S E d0 σ re R xb k m j ≤ 5 * 6256250 := fun j hj hmR => by
    unfold zx
    by_cases c1 : re j = true
    · rw [if_pos c1, if_neg hmR]
      by_cases c2 : re m = true
      · rw [if_pos c2]
        have := zP1_le hl (U := zU σ re k) (σ m) (σ j) (hσ j hj c1)
        omega
      · rw [if_neg c2]
        omega
    · rw [if_neg c1]
      omega
  have hA70 : ∀ i j, j ≠ R → -70 ≤ zA E σ re R bv i j ∧ zA E σ re R bv i j ≤ 70 := fun i j hj => by
    unfold zA
    rw [if_neg hj]
    split
    · have h1 := Lp_le hl.2.1 (σ i) (σ j)
      have h2 := hl.2.2.2.2
      omega
    · split <;> omega
  by_cases hrk : r < k
  · have e : zcell (zA E σ re R bv) (fun k => TD S E (lU (zU σ re k) d0)) (zx S E d0 σ re R xb) k r m = zx S E d0 σ re R xb k m r := by unfold zcell; rw [if_pos hrk]
    rw [e]
    by_cases hmR : m = R
    · unfold zx
      by_cases c1 : re r = true
      · rw [if_pos c1, if_pos hmR]
        exact hR1 k r hk hr c1
      · rw [if_neg c1]
        omega
    · have := hx r hr hmR
      omega
  · by_cases hmR : m = R
    · subst hmR
      by_cases c1 : re r = true
      · exact hR2 k r (by omega) hr c1
      · have e : zcell (zA E σ re m bv) (fun k => TD S E (lU (zU σ re k) d0)) (zx S E d0 σ re m xb) k r m = 0 := by
          unfold zcell
          rw [if_neg hrk, sN_zero k (fun j hj => by
            unfold zA
            rw [if_neg (by omega), if_neg (fun q => c1 q.1), if_neg (by omega)]
            omega)]
          unfold zA
          rw [if_pos rfl, if_neg c1]
          omega
        rw [e]
        omega
    · have hT := zTD_le hl (U := zU σ re k) (fun _ => 0)
      have h1 := zmul_le (a := TD S E (lU (zU σ re k) d0)) (b := zA E σ re R bv r m) (A := 6256250) (B := 70) ⟨by have : TD S E (lU (zU σ re k) d0) = TS S (fun _ => 1) E (lU (zU σ re k) d0) (fun _ => 0) := rfl; omega, hT.2⟩ (hA70 r m hmR)
      have h2 := sN_abs (f := fun j => zA E σ re R bv r j * zx S E d0 σ re R xb k m j) (B := 70 * (5 * 6256250)) (by omega) k (fun j hj => zmul_le (hA70 r j (by omega)) (hx j (by omega) hmR))
      have h3 : (k : Int) ≤ 6 := by omega
      have h4 : (k : Int) * (70 * (5 * 6256250)) ≤ 6 * (70 * (5 * 6256250)) := by omega
      have e : zcell (zA E σ re R bv) (fun k => TD S E (lU (zU σ re k) d0)) (zx S E d0 σ re R xb) k r m = TD S E (lU (zU σ re k) d0) * zA E σ re R bv r m - sN (fun j => zA E σ re R bv r j * zx S E d0 σ re R xb k m j) k := by unfold zcell; rw [if_neg hrk]
      rw [e]
      omega
end ZLIM

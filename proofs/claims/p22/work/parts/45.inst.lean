/-! THE EQUATIONS OF A PART: on the right the differences, or a unit between two stations -/
section ZINST
theorem pE_lim {A : zNt} (hA : zok A) {t w : Nat} (ht : t < nnn A) : zlim (pS A t) (pE A t w) (dat A t) :=
  ⟨pE_ok hA, pE_w hA, pS_lt hA, dat_S ht, Nat.le_trans nEl_len hA.2.1⟩
/-- rows: which stations they are of -/
def zrow (S : List Nat) (d0 n : Nat) (σ : Nat → Nat) (re : Nat → Bool) (R : Nat) : Prop := n ≤ R ∧ n ≤ 6 ∧ (∀ i, i < n → re i = true → σ i ∈ S ∧ σ i ≠ d0) ∧ (∀ i j, i < n → j < n → re i = true → re j = true → σ i = σ j → i = j)
theorem zrow_d {S : List Nat} {d0 n : Nat} {σ : Nat → Nat} {re : Nat → Bool} {R : Nat} (h : zrow S d0 n σ re R) {k : Nat} (hk : k ≤ n) : zU σ re k d0 = false := by
  cases hh : zU σ re k d0
  · rfl
  · obtain ⟨i, h1, h2, h3⟩ := (zU_iff σ re d0 k).mp hh
    exact absurd h3 (h.2.2.1 i (by omega) h2).2
theorem zrow_S {S : List Nat} {d0 n : Nat} {σ : Nat → Nat} {re : Nat → Bool} {R : Nat} (h : zrow S d0 n σ re R) {k : Nat} (hk : k ≤ n) {s : Nat} (hs : zU σ re k s = true) : s ∈ S := by
  obtain ⟨i, h1, h2, h3⟩ := (zU_iff σ re s k).mp hs
  rw [← h3]
  exact (h.2.2.1 i (by omega) h2).1
theorem zrow_no {S : List Nat} {d0 n : Nat} {σ : Nat → Nat} {re : Nat → Bool} {R : Nat} (h : zrow S d0 n σ re R) {k r : Nat} (hk : k ≤ r) (hr : r < n) (hre : re r = true) : zU σ re k (σ r) = false := by
  cases hh : zU σ re k (σ r)
  · rfl
  · obtain ⟨i, h1, h2, h3⟩ := (zU_iff σ re (σ r) k).mp hh
    have := h.2.2.2 i r (by omega) hr h2 hre h3
    omega
/-- the sum over the rows is the sum over the stations -/
theorem zsumR {S : List Nat} {E : List zE} {d0 N n : Nat} {σ : Nat → Nat} {re : Nat → Bool} {R : Nat} {bv : Nat → Int} {xb : Nat → Nat → Int} (h : zgood S E d0 N n σ re R bv xb) {k r : Nat} (hk : k ≤ n) (hre : re r = true) :
    sN (fun j => zA E σ re R bv r j * zx S E d0 σ re R xb k R j) k = sN (fun j => Lp E (σ r) j * xb k j) N := by
  obtain ⟨hE, hw, hS, hd, hnR, hσ, hinj, hx0, hxb⟩ := h
  have e1 : sN (fun j => zA E σ re R bv r j * zx S E d0 σ re R xb k R j) k = sN (fun j => if re j = true then (fun s => Lp E (σ r) s * xb k s) (σ j) else 0) k := by
    refine sN_congr k (fun j hj => ?_)
    unfold zA zx
    rw [if_neg (show ¬ j = R by omega), if_pos (show R = R from rfl)]
    cases hrj : re j
    · simp
    · simp [hre]
  have e2 : sN (fun s => if zU σ re k s = true then (fun s => Lp E (σ r) s * xb k s) s else 0) N = sN (fun j => Lp E (σ r) j * xb k j) N := by
    refine sN_congr N (fun s _ => ?_)
    cases hs : zU σ re k s
    · rw [if_neg (by decide)]
      by_cases hsS : s ∈ S
      · rw [hx0 k hk s hsS hs, Int.mul_zero]
      · rw [Lp_out hE hsS, Int.zero_mul]
    · rw [if_pos rfl]
  exact (e1.trans (sN_re (σ := σ) (re := re) (N := N) (fun s => Lp E (σ r) s * xb k s) k (fun i hi hr => hS _ (hσ i (by omega) hr).1) (fun i j hi hj => hinj i j (by omega) (by omega)))).trans e2
/-- the differences on the right -/
def xbD (S : List Nat) (E : List zE) (d0 : Nat) (σ : Nat → Nat) (re : Nat → Bool) (k s : Nat) : Int := TS S (fun q => q s - q d0) E (lU (zU σ re k) d0) (fun _ => 0)
theorem zgoodD {S : List Nat} {E : List zE} {d0 n : Nat} {σ : Nat → Nat} {re : Nat → Bool} {R : Nat} (hl : zlim S E d0) (hr : zrow S d0 n σ re R) : zgood S E d0 6 n σ re R (Lb E) (xbD S E d0 σ re) := by
  refine ⟨hl.1, fun e he => (hl.2.1 e he).1, hl.2.2.1, hl.2.2.2.1, hr.1, hr.2.2.1, hr.2.2.2, fun k hk s hs hU => ?_, fun k hk r hU => ?_⟩
  · unfold xbD
    rw [TP_fixed (zrow_d hr hk) hU]
    omega
  · exact Lp_eq hl.1 hl.2.2.1 (zrow_d hr hk) hU (zrow_S hr hk hU) _
/-- what is asked of the equations for the steps -/
def zbnd (n : Nat) (M : Nat → Nat → Prop) (A : Nat → Nat → Int) (d : Nat → Int) (x : Nat → Nat → Nat → Int) : Prop :=
  zdata n M A d x ∧ (∀ k, k ≤ n → 0 ≤ d k ∧ d k ≤ 6256250) ∧ (∀ k r m, k ≤ n → r < n → M k m → -312781218750 ≤ zcell A d x k r m ∧ zcell A d x k r m ≤ 312781218750)
theorem zbndD {S : List Nat} {E : List zE} {d0 n : Nat} {σ : Nat → Nat} {re : Nat → Bool} {R : Nat} (hl : zlim S E d0) (hd : ∀ e ∈ E, -9999 ≤ e.2.2.1 ∧ e.2.2.1 ≤ 9999) (hr : zrow S d0 n σ re R) :
    zbnd n (fun k m => (k ≤ m ∧ m < n) ∨ m = R) (zA E σ re R (Lb E)) (fun k => TD S E (lU (zU σ re k) d0)) (zx S E d0 σ re R (xbD S E d0 σ re)) := by
  have hg := zgoodD hl hr
  have hP : ∀ (U : Nat → Bool) (s : Nat), s ∈ S → -312781218750 ≤ TS S (fun q => q s - q d0) E (lU U d0) (fun _ => 0) ∧ TS S (fun q => q s - q d0) E (lU U d0) (fun _ => 0) ≤ 312781218750 := fun U s hs => by
    have h1 := zP_le hl (c := 9999) (by omega) hd (U := U) s d0 hs hl.2.2.2.1
    have h2 := (zTD_le hl (U := U) (fun _ => 0)).2
    have : TD S E (lU U d0) = TS S (fun _ => 1) E (lU U d0) (fun _ => 0) := rfl
    rw [this] at h1
    omega
  refine ⟨zgood_data hg, fun k hk => zTD_le hl (U := zU σ re k) _, fun k r m hk hrn hm => ?_⟩
  refine zcell_le hl hr.2.1 (fun i hi h => (hr.2.2.1 i hi h).1) (fun k r hk hrn hre => hP _ _ (hr.2.2.1 r hrn hre).1) (fun k r hk hrn hre => ?_) hk hrn hm hr.1
  have e : zcell (zA E σ re R (Lb E)) (fun k => TD S E (lU (zU σ re k) d0)) (zx S E d0 σ re R (xbD S E d0 σ re)) k r R = TS S (fun q => q (σ r) - q d0) E (lU (fun s => zU σ re k s || s == σ r) d0) (fun _ => 0) := by
    obtain ⟨h1, h2⟩ := hr.2.2.1 r hrn hre
    rw [TL_step hl.1 hl.2.2.1 (zrow_d hr (by omega)) hl.2.2.2.1 h1 (zrow_no hr hk hrn hre) h2]
    unfold zcell
    rw [if_neg (by omega), zsumR hg (by omega) hre]
    unfold zA
    rw [if_pos rfl, if_pos hre]
    rfl
  rw [e]
  exact hP _ _ (hr.2.2.1 r hrn hre).1
/-! the unit between the stations of one observation -/
def nA1 (A : zNt) (o : Nat) : zNt := (nnn A, nko A, nfr A, nto A, fun i => if i = o then 1 else 0, nwt A, nwd A, ntl A, nth A)
theorem n1_Lp (A : zNt) (o : Nat) (p : Nat → Bool) (r j : Nat) : ∀ m i, Lp (nEl (nA1 A o) p i m) r j = Lp (nEl A p i m) r j
  | 0, i => rfl
  | m + 1, i => by
    have ih := n1_Lp A o p r j m (i + 1)
    simp only [nEl]
    split
    · simp only [Lp]
      rw [ih]
      rfl
    · exact ih
theorem n1_TD (S : List Nat) (A : zNt) (o : Nat) (p : Nat → Bool) : ∀ m i (lab : Nat → Nat) (ris ris2 : Nat → Int), TS S (fun _ => 1) (nEl (nA1 A o) p i m) lab ris = TS S (fun _ => 1) (nEl A p i m) lab ris2
  | 0, i, lab, ris, ris2 => rfl
  | m + 1, i, lab, ris, ris2 => by
    simp only [nEl]
    split
    · simp only [TS]
      rw [n1_TD S A o p m (i + 1) lab ris ris2, n1_TD S A o p m (i + 1) (jl (nfr (nA1 A o) i) (nto (nA1 A o) i) lab) _ (jr (nfr A i) (nto A i) (ndf A i) lab ris2)]
      rfl
    · exact n1_TD S A o p m (i + 1) lab ris ris2
theorem n1_Lb (A : zNt) (o : Nat) (p : Nat → Bool) (hp : p o = true) (r : Nat) : ∀ m i, Lb (nEl (nA1 A o) p i m) r = if i ≤ o ∧ o < i + m then nwt A o * (zd r (nto A o) - zd r (nfr A o)) else 0
  | 0, i => by
    rw [if_neg (by omega)]
    rfl
  | m + 1, i => by
    have ih := n1_Lb A o p hp r m (i + 1)
    simp only [nEl]
    by_cases e : i = o
    · subst e
      rw [if_neg (by omega)] at ih
      rw [if_pos hp, if_pos (by omega)]
      simp only [Lb]
      rw [ih]
      show nwt A i * (zd r (nto A i) - zd r (nfr A i)) * (if i = i then 1 else 0) + 0 = _
      rw [if_pos rfl]
      omega
    · have e2 : (if i ≤ o ∧ o < i + (m + 1) then nwt A o * (zd r (nto A o) - zd r (nfr A o)) else 0) = if i + 1 ≤ o ∧ o < i + 1 + m then nwt A o * (zd r (nto A o) - zd r (nfr A o)) else 0 := zite ⟨fun q => by omega, fun q => by omega⟩
      rw [e2, ← ih]
      split
      · simp only [Lb]
        show nwt A i * (zd r (nto A i) - zd r (nfr A i)) * (if i = o then 1 else 0) + _ = _
        rw [if_neg e]
        omega
      · rfl
theorem n1_0 (S : List Nat) (A : zNt) (o : Nat) (p : Nat → Bool) (v : (Nat → Int) → Int) : ∀ m i (lab : Nat → Nat), ¬ (i ≤ o ∧ o < i + m) → TS S v (nEl (nA1 A o) p i m) lab (fun _ => 0) = v (fun _ => 0) * TS S (fun _ => 1) (nEl (nA1 A o) p i m) lab (fun _ => 0)
  | 0, i, lab, h => by
    simp only [nEl, TS]
    split
    · omega
    · omega
  | m + 1, i, lab, h => by
    have ih := n1_0 S A o p v m (i + 1)
    simp only [nEl]
    split
    · have hd : ndf (nA1 A o) i = 0 := if_neg (by omega)
      simp only [TS]
      rw [hd, jr_0, ih lab (by omega), ih _ (by omega)]
      split
      · rw [Int.add_zero, Int.add_zero]
      · rw [Int.mul_add, Int.mul_left_comm]
    · exact ih lab (by omega)
theorem n1_dvd (S : List Nat) (A : zNt) (o : Nat) (p : Nat → Bool) (v : (Nat → Int) → Int) (hv : v (fun _ => 0) = 0) : ∀ m i (lab : Nat → Nat), nwt A o ∣ TS S v (nEl (nA1 A o) p i m) lab (fun _ => 0)
  | 0, i, lab => by
    have := n1_0 S A o p v 0 i lab (by omega)
    rw [this, hv, Int.zero_mul]
    exact Int.dvd_zero _
  | m + 1, i, lab => by
    have ih := n1_dvd S A o p v hv m (i + 1)
    simp only [nEl]
    split
    · simp only [TS]
      refine Int.dvd_add (ih lab) ?_
      split
      · exact Int.dvd_zero _
      · by_cases e : i = o
        · subst e
          exact Int.dvd_mul_right _ _
        · have hd : ndf (nA1 A o) i = 0 := if_neg e
          rw [hd, jr_0]
          exact Int.dvd_mul_of_dvd_right (ih _)
    · exact ih lab
theorem n1_has (S : List Nat) (A : zNt) (o : Nat) (p : Nat → Bool) (hp : p o = true) : ∀ m i (lab : Nat → Nat), TS S (fun q => q (nto A o) - q (nfr A o)) (nEl (nA1 A o) p i m) lab (fun _ => 0) = TS S (fun _ => 1) (nEl A p i m) lab (fun _ => 0) - TS S (fun _ => 1) (nEl A (fun j => p j && j != o) i m) lab (fun _ => 0)
  | 0, i, lab => by
    simp only [nEl, TS]
    split <;> omega
  | m + 1, i, lab => by
    have ih := n1_has S A o p hp m (i + 1)
    simp only [nEl]
    by_cases e : i = o
    · subst e
      rw [if_pos hp, if_pos hp, if_neg (by simp)]
      have h0 := n1_0 S A i p (fun q => q (nto A i) - q (nfr A i)) m (i + 1) lab (by omega)
      have hc : ∀ lab ris, TS S (fun _ => 1) (nEl A p (i + 1) m) lab ris = TS S (fun _ => 1) (nEl A (fun j => p j && j != i) (i + 1) m) lab ris := fun lab ris => by
        rw [nEl_congr (q := fun j => p j && j != i) (fun j h1 h2 => by
          have : (j != i) = true := by simp; omega
          rw [this, Bool.and_true])]
      simp only [TS]
      rw [h0, hc lab]
      have hd : ndf (nA1 A i) i = 1 := if_pos rfl
      rw [hd]
      show ((0 : Int) - 0) * _ + (if lab (nfr A i) = lab (nto A i) then 0 else nwt A i * TS S (fun q => q (nto A i) - q (nfr A i)) (nEl (nA1 A i) p (i + 1) m) (jl (nfr A i) (nto A i) lab) (jr (nfr A i) (nto A i) 1 lab fun x => 0)) = _ + (if lab (nfr A i) = lab (nto A i) then 0 else nwt A i * TS S (fun _ => 1) (nEl A p (i + 1) m) (jl (nfr A i) (nto A i) lab) (jr (nfr A i) (nto A i) (ndf A i) lab fun x => 0)) - _
      by_cases c : lab (nfr A i) = lab (nto A i)
      · rw [if_pos c, if_pos c]
        omega
      · rw [if_neg c, if_neg c]
        have hj : jl (nfr A i) (nto A i) lab (nto A i) = jl (nfr A i) (nto A i) lab (nfr A i) := by simp [jl, c]
        have hr : jr (nfr A i) (nto A i) 1 lab (fun _ => 0) (nto A i) - jr (nfr A i) (nto A i) 1 lab (fun _ => 0) (nfr A i) = 1 := by
          unfold jr
          rw [if_pos rfl, if_neg c]
          omega
        rw [TS_rigid S _ _ _ _ _ hj, hr, Int.one_mul]
        show _ + nwt A i * TS S (fun _ => 1) (nEl (nA1 A i) p (i + 1) m) (jl (nfr A i) (nto A i) lab) (fun _ => 0) = _
        rw [n1_TD S A i p m (i + 1) (jl (nfr A i) (nto A i) lab) (fun _ => 0) (jr (nfr A i) (nto A i) (ndf A i) lab fun x => 0)]
        rw [Int.sub_self, Int.zero_mul]
        omega
    · have hd : ndf (nA1 A o) i = 0 := if_neg e
      have hb : (i != o) = true := by simp [e]
      have ihl := ih lab
      by_cases c : p i = true
      · rw [if_pos c, if_pos c, if_pos (by rw [c, hb]; rfl)]
        simp only [TS]
        rw [hd, jr_0, ihl]
        show _ + (if lab (nfr A i) = lab (nto A i) then 0 else nwt A i * TS S (fun q => q (nto A o) - q (nfr A o)) (nEl (nA1 A o) p (i + 1) m) (jl (nfr A i) (nto A i) lab) (fun _ => 0)) = _
        rw [ih (jl (nfr A i) (nto A i) lab)]
        split
        · omega
        · have t1 := TD_eq S (nEl A p (i + 1) m) (jl (nfr A i) (nto A i) lab) (jr (nfr A i) (nto A i) (ndf A i) lab fun x => 0) (fun _ => 0)
          have t2 := TD_eq S (nEl A (fun j => p j && j != o) (i + 1) m) (jl (nfr A i) (nto A i) lab) (jr (nfr A i) (nto A i) (ndf A i) lab fun x => 0) (fun _ => 0)
          rw [t1, t2, Int.mul_sub]
          omega
      · rw [if_neg c, if_neg c, if_neg (by rw [Bool.and_eq_true]; exact fun q => c q.1)]
        exact ihl
noncomputable def pE1 (A : zNt) (t o : Nat) : List zE := nEl (nA1 A o) (pP A t 14) 0 (nko A)
noncomputable def xb1 (A : zNt) (t o : Nat) (σ : Nat → Nat) (re : Nat → Bool) (k s : Nat) : Int := TS (pS A t) (fun q => q s - q (dat A t)) (pE1 A t o) (lU (zU σ re k) (dat A t)) (fun _ => 0) / nwt A o
theorem xb1_mul {A : zNt} (t o : Nat) (σ : Nat → Nat) (re : Nat → Bool) (k s : Nat) : nwt A o * xb1 A t o σ re k s = TS (pS A t) (fun q => q s - q (dat A t)) (pE1 A t o) (lU (zU σ re k) (dat A t)) (fun _ => 0) :=
  Int.mul_ediv_cancel' (n1_dvd _ _ _ _ _ (Int.sub_self 0) _ _ _)
theorem pE1_lim {A : zNt} (hA : zok A) {t o : Nat} (ht : t < nnn A) : zlim (pS A t) (pE1 A t o) (dat A t) := by
  have h := pE_lim hA (w := 14) ht
  have key : ∀ e ∈ pE1 A t o, ∃ e' ∈ pE A t 14, e.1 = e'.1 ∧ e.2.1 = e'.2.1 ∧ e.2.2.2 = e'.2.2.2 := fun e he => by
    obtain ⟨i, h1, h2, h3, rfl⟩ := nEl_in he
    exact ⟨_, nEl_mem h3 h1 h2, rfl, rfl, rfl⟩
  refine ⟨fun e he => ?_, fun e he => ?_, h.2.2.1, h.2.2.2.1, Nat.le_trans nEl_len hA.2.1⟩
  · obtain ⟨e', h1, h2, h3, h4⟩ := key e he
    rw [h2, h3]
    exact h.1 e' h1
  · obtain ⟨e', h1, h2, h3, h4⟩ := key e he
    rw [h4]
    exact h.2.1 e' h1
theorem pP_o {A : zNt} (hA : zok A) {o : Nat} (ho : o < nko A) (hw : nwd A o = false) : pP A (nfr A o) 14 o = true := by
  have hne : o ≠ 14 := by have := hA.2.1; omega
  simp [pP, hw, cI_rfl, hne]
theorem zgood1 {A : zNt} (hA : zok A) {o : Nat} (ho : o < nko A) (hw : nwd A o = false) {n : Nat} {σ : Nat → Nat} {re : Nat → Bool} {R : Nat} (hr : zrow (pS A (nfr A o)) (dat A (nfr A o)) n σ re R) :
    zgood (pS A (nfr A o)) (pE A (nfr A o) 14) (dat A (nfr A o)) 6 n σ re R (fun r => zd r (nto A o) - zd r (nfr A o)) (xb1 A (nfr A o) o σ re) := by
  obtain ⟨f1, f2, -, -, f5, f6⟩ := hA.2.2.1 o ho
  have hl := pE_lim hA (w := 14) f1
  have hl1 := pE1_lim hA (o := o) f1
  refine ⟨hl.1, fun e he => (hl.2.1 e he).1, hl.2.2.1, hl.2.2.2.1, hr.1, hr.2.2.1, hr.2.2.2, fun k hk s hs hU => ?_, fun k hk r hU => ?_⟩
  · unfold xb1
    rw [TP_fixed (zrow_d hr hk) hU, Int.sub_self, Int.zero_mul, Int.zero_ediv]
  · have h1 := Lp_eq hl1.1 hl1.2.2.1 (zrow_d hr hk) hU (zrow_S hr hk hU) (fun _ => 0)
    have h2 : Lb (pE1 A (nfr A o) o) r = nwt A o * (zd r (nto A o) - zd r (nfr A o)) := by
      unfold pE1
      rw [n1_Lb A o _ (pP_o hA ho hw), if_pos (by omega)]
    have h3 : TD (pS A (nfr A o)) (pE1 A (nfr A o) o) (lU (zU σ re k) (dat A (nfr A o))) = TD (pS A (nfr A o)) (pE A (nfr A o) 14) (lU (zU σ re k) (dat A (nfr A o))) := n1_TD _ A o _ _ _ _ _ _
    rw [h2, h3, sN_congr (g := fun j => nwt A o * (Lp (pE A (nfr A o) 14) r j * xb1 A (nfr A o) o σ re k j)) 6 (fun j _ => by
      rw [← xb1_mul]
      have : Lp (pE1 A (nfr A o) o) r j = Lp (pE A (nfr A o) 14) r j := n1_Lp A o _ r j _ _
      rw [this, Int.mul_left_comm]), sN_smul, Int.mul_left_comm] at h1
    exact Int.eq_of_mul_eq_mul_left (by omega) h1
theorem zbnd1 {A : zNt} (hA : zok A) {o : Nat} (ho : o < nko A) (hw : nwd A o = false) {n : Nat} {σ : Nat → Nat} {re : Nat → Bool} {R : Nat} (hr : zrow (pS A (nfr A o)) (dat A (nfr A o)) n σ re R) :
    zbnd n (fun k m => (k ≤ m ∧ m < n) ∨ m = R) (zA (pE A (nfr A o) 14) σ re R (fun r => zd r (nto A o) - zd r (nfr A o))) (fun k => TD (pS A (nfr A o)) (pE A (nfr A o) 14) (lU (zU σ re k) (dat A (nfr A o)))) (zx (pS A (nfr A o)) (pE A (nfr A o) 14) (dat A (nfr A o)) σ re R (xb1 A (nfr A o) o σ re)) := by
  have hg := zgood1 hA ho hw hr
  obtain ⟨f1, f2, -, -, f5, f6⟩ := hA.2.2.1 o ho
  have hl := pE_lim hA (w := 14) f1
  have hl1 := pE1_lim hA (o := o) f1
  have hd1 : ∀ e ∈ pE1 A (nfr A o) o, -1 ≤ e.2.2.1 ∧ e.2.2.1 ≤ 1 := fun e he => by
    obtain ⟨i, h1, h2, h3, rfl⟩ := nEl_in he
    show -1 ≤ (if i = o then 1 else 0 : Int) ∧ (if i = o then 1 else 0 : Int) ≤ 1
    split <;> omega
  have hP : ∀ (k : Nat) (s : Nat), s ∈ pS A (nfr A o) → -(5 * 6256250) ≤ xb1 A (nfr A o) o σ re k s ∧ xb1 A (nfr A o) o σ re k s ≤ 5 * 6256250 := fun k s hs => by
    have h1 := zP_le hl1 (c := 1) (by omega) hd1 (U := zU σ re k) s _ hs hl.2.2.2.1
    have h2 := (zTD_le hl1 (U := zU σ re k) (fun _ => 0)).2
    have : TD (pS A (nfr A o)) (pE1 A (nfr A o) o) (lU (zU σ re k) (dat A (nfr A o))) = TS (pS A (nfr A o)) (fun _ => 1) (pE1 A (nfr A o) o) (lU (zU σ re k) (dat A (nfr A o))) (fun _ => 0) := rfl
    rw [this, ← xb1_mul] at h1
    have f7 : nwt A o = 1 ∨ nwt A o = 2 ∨ nwt A o = 3 ∨ nwt A o = 4 ∨ nwt A o = 5 := by omega
    rcases f7 with f | f | f | f | f <;> rw [f] at h1 <;> omega
  refine ⟨zgood_data hg, fun k hk => zTD_le hl (U := zU σ re k) _, fun k r m hk hrn hm => ?_⟩
  refine zcell_le hl hr.2.1 (fun i hi h => (hr.2.2.1 i hi h).1) (fun k r hk hrn hre => by have := hP k _ (hr.2.2.1 r hrn hre).1; omega) (fun k r hk hrn hre => ?_) hk hrn hm hr.1
  have hT := zTD_le hl (U := zU σ re k) (fun _ => 0)
  have e1 : TD (pS A (nfr A o)) (pE A (nfr A o) 14) (lU (zU σ re k) (dat A (nfr A o))) = TS (pS A (nfr A o)) (fun _ => 1) (pE A (nfr A o) 14) (lU (zU σ re k) (dat A (nfr A o))) (fun _ => 0) := rfl
  have hb : -1 ≤ zd (σ r) (nto A o) - zd (σ r) (nfr A o) ∧ zd (σ r) (nto A o) - zd (σ r) (nfr A o) ≤ 1 := zd_le _ _ _
  have h1 := zmul_le (A := 6256250) (B := 1) (a := TD (pS A (nfr A o)) (pE A (nfr A o) 14) (lU (zU σ re k) (dat A (nfr A o)))) (b := zd (σ r) (nto A o) - zd (σ r) (nfr A o)) (by rw [e1]; omega) hb
  have h2 := sN_abs (f := fun j => Lp (pE A (nfr A o) 14) (σ r) j * xb1 A (nfr A o) o σ re k j) (B := 70 * (5 * 6256250)) (by omega) 6 (fun j hj => by
    by_cases hj2 : j ∈ pS A (nfr A o)
    · have h3 := Lp_le hl.2.1 (σ r) j
      have h4 := hl.2.2.2.2
      exact zmul_le (A := 70) (by omega) (hP k j hj2)
    · rw [Lp_out hl.1 hj2, Int.zero_mul]
      omega)
  unfold zcell
  rw [if_neg (by omega), zsumR hg (by omega) hre]
  unfold zA
  rw [if_pos rfl, if_pos hre]
  dsimp only
  omega
end ZINST

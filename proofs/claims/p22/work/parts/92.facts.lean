/-! WHAT HOLDS OF EVERY NET: checks, rounding, sums over parts, an observation more, cleaning -/
section ZFA
theorem lw_fix {A : zNt} {t : Nat} : lw A t = t ↔ ∀ j, j < t → cI A j t = false := by
  obtain ⟨h1, h2, h3⟩ := lw_spec A t
  refine ⟨fun h j hj => h3 j (by omega), fun h => ?_⟩
  rcases Nat.lt_or_ge (lw A t) t with q | q
  · rw [h _ q] at h2
    cases h2
  · omega
theorem lw_lw (A : zNt) (t : Nat) : lw A (lw A t) = lw A t := lw_eq.mpr (lw_spec A t).2.1
theorem lw_lt {A : zNt} {t : Nat} (h : t < nnn A) : lw A t < nnn A := by
  have := (lw_spec A t).1
  omega
theorem lw_cI {A : zNt} {s l : Nat} (hl : lw A l = l) : lw A s = l ↔ cI A s l = true := by
  rw [← lw_eq, hl]
theorem chk_lt {A : zNt} (hA : zok A) {o : Nat} (ho : o < nko A) (hw : nwd A o = false) : 0 ≤ aChk A o ∧ aChk A o < 1000 := by
  obtain ⟨f1, f2, f3, f4, f5, f6⟩ := hA.2.2.1 o ho
  refine ⟨(aChk_le hA ho).1, ?_⟩
  obtain ⟨X, h1, h2, h3⟩ := pT_with hA ho hw
  have hp := pT_pos hA f1
  have h4 := Int.mul_pos (show 0 < nwt A o by omega) h1
  unfold aChk
  refine Int.ediv_lt_of_lt_mul hp ?_
  rw [h2]
  omega
theorem chk_0 {A : zNt} (hA : zok A) {o : Nat} (ho : o < nko A) (hw : nwd A o = false) (h : aChk A o = 0) : aMis A o = 0 := by
  obtain ⟨f1, f2, f3, f4, f5, f6⟩ := hA.2.2.1 o ho
  obtain ⟨X, h1, h2, h3⟩ := pT_with hA ho hw
  have hp := pT_pos hA f1
  have h0 := (pT_lim hA (w := o) f1).1
  refine aMis_0 hA ho hw ?_
  apply Classical.byContradiction
  intro hne
  have h4 := h3 (by omega)
  have h5 := Int.mul_le_mul_of_nonneg_right f6 (Int.le_of_lt h1)
  have h6 := Int.lt_ediv_add_one_mul_self (1000 * pT A (nfr A o) o) hp
  have h7 : 1000 * pT A (nfr A o) o / pT A (nfr A o) 14 = 0 := h
  rw [h7] at h6
  omega
theorem res_0 {A : zNt} (hA : zok A) {o : Nat} (ho : o < nko A) (hw : nwd A o = false) (h : aChk A o = 0) : aRes A o = 0 ∧ aScr A o = 0 := by
  refine ⟨?_, by unfold aScr; rw [if_pos h]⟩
  unfold aRes
  rw [chk_0 hA ho hw h]
  simp
theorem hgt_le {A : zNt} (hA : zok A) {t : Nat} (ht : t < nnn A) : -6000000 ≤ aHgt A t ∧ aHgt A t ≤ 6000000 := by
  have hp := pT_pos hA ht
  have hr := pR0_le hA ht t
  have hn := hA.1
  have hd := dat_lt (A := A) ht
  have hh := hA.2.2.2.1 (dat A t) (by omega)
  have h1 := Int.mul_le_mul_of_nonneg_right hh.1 (Int.le_of_lt hp)
  have h2 := Int.mul_le_mul_of_nonneg_right hh.2 (Int.le_of_lt hp)
  unfold aHgt
  refine ⟨(Int.le_ediv_iff_mul_le hp).mpr (by omega), Int.le_of_lt_add_one (Int.ediv_lt_of_lt_mul hp (by omega))⟩
theorem res_le {A : zNt} (hA : zok A) {o : Nat} (ho : o < nko A) : -10998900 ≤ aRes A o ∧ aRes A o ≤ 10998900 := by
  obtain ⟨f1, -⟩ := hA.2.2.1 o ho
  have hp := pT_pos hA f1
  have hm := aMis_le hA ho
  unfold aRes
  refine ⟨(Int.le_ediv_iff_mul_le hp).mpr (by omega), Int.le_of_lt_add_one (Int.ediv_lt_of_lt_mul hp (by omega))⟩
theorem zfl_sub {a b T : Int} (hT : 0 < T) : a / T - b / T - 1 ≤ (a - b) / T ∧ (a - b) / T ≤ a / T - b / T := by
  have a1 := Int.ediv_mul_le a (show T ≠ 0 by omega)
  have a2 := Int.lt_ediv_add_one_mul_self a hT
  have b1 := Int.ediv_mul_le b (show T ≠ 0 by omega)
  have b2 := Int.lt_ediv_add_one_mul_self b hT
  generalize a / T = qa at *
  generalize b / T = qb at *
  rw [Int.add_mul, Int.one_mul] at a2 b2
  refine ⟨(Int.le_ediv_iff_mul_le hT).mpr ?_, Int.le_of_lt_add_one (Int.ediv_lt_of_lt_mul hT ?_)⟩
  · rw [Int.sub_mul, Int.sub_mul, Int.one_mul]
    omega
  · rw [Int.add_mul, Int.sub_mul, Int.one_mul]
    omega
/-- residuals are heights less what was observed, but for what is rounded -/
theorem res_hgt {A : zNt} (hA : zok A) {o : Nat} (ho : o < nko A) (hw : nwd A o = false) : aHgt A (nto A o) - aHgt A (nfr A o) - 100 * ndf A o - 1 ≤ aRes A o ∧ aRes A o ≤ aHgt A (nto A o) - aHgt A (nfr A o) - 100 * ndf A o := by
  obtain ⟨f1, f2, -⟩ := hA.2.2.1 o ho
  have hc := cI_edge ho hw
  have hp := pT_pos hA f1
  have e1 : aHgt A (nto A o) = (100 * pR0 A (nfr A o) (nto A o)) / pT A (nfr A o) 14 + 100 * nth A (dat A (nfr A o)) := by
    unfold aHgt
    rw [← pR0_cg hc, ← pT_cg hc, ← dat_congr hc, Int.mul_add, ← Int.mul_assoc, Int.add_mul_ediv_right _ _ (by omega)]
  have e2 : aHgt A (nfr A o) = (100 * pR0 A (nfr A o) (nfr A o)) / pT A (nfr A o) 14 + 100 * nth A (dat A (nfr A o)) := by
    unfold aHgt
    rw [Int.mul_add, ← Int.mul_assoc, Int.add_mul_ediv_right _ _ (by omega)]
  have e3 : aRes A o = (100 * pR0 A (nfr A o) (nto A o) - 100 * pR0 A (nfr A o) (nfr A o)) / pT A (nfr A o) 14 + -(100 * ndf A o) := by
    unfold aRes aMis
    rw [show 100 * (pR0 A (nfr A o) (nto A o) - pR0 A (nfr A o) (nfr A o) - ndf A o * pT A (nfr A o) 14) = (100 * pR0 A (nfr A o) (nto A o) - 100 * pR0 A (nfr A o) (nfr A o)) + -(100 * ndf A o) * pT A (nfr A o) 14 by grind, Int.add_mul_ediv_right _ _ (by omega)]
  have h := zfl_sub (a := 100 * pR0 A (nfr A o) (nto A o)) (b := 100 * pR0 A (nfr A o) (nfr A o)) hp
  omega
/-- a station alone -/
theorem alone {A : zNt} (hA : zok A) {s : Nat} (hs : s < nnn A) (h : ∀ o, o < nko A → nwd A o = false → nfr A o ≠ s ∧ nto A o ≠ s) : pT A s 14 = 1 ∧ aHgt A s = 100 * nth A s ∧ aFre A s = 0 := by
  have hc : ∀ u, cI A u s = true → u = s := fun u hu => by
    have := cI_iff.mp hu (fun v => v = s) (fun o ho hw => by
      have := h o ho hw
      exact ⟨fun q => absurd q this.1, fun q => absurd q this.2⟩)
    exact this.mpr rfl
  have hd : dat A s = s := hc _ (dat_in A s)
  have hU : ∀ q, pU A s q = false := fun q => by
    unfold pU
    cases hh : cI A q s
    · rfl
    · rw [hd, hc q hh]
      simp
  have hE : pE A s 14 = [] := by
    cases hh : pE A s 14 with
    | nil => rfl
    | cons e E =>
      have he : e ∈ pE A s 14 := by rw [hh]; exact List.mem_cons_self
      obtain ⟨i, h1, h2, h3, -⟩ := nEl_in he
      simp only [pP, Bool.and_eq_true, Bool.not_eq_true'] at h3
      exact absurd (hc _ h3.1.2) (h i (by omega) h3.1.1).1
  have hT : pT A s 14 = 1 := by
    unfold pT
    rw [hE]
    simp only [TD, TS]
    rw [if_pos]
    intro a ha b hb
    rw [hc a (pS_in.mp ha).2, hc b (pS_in.mp hb).2]
  have hR : ∀ q, pR0 A s q = 0 := fun q => by
    unfold pR0
    rw [hU q]
    rfl
  refine ⟨hT, ?_, ?_⟩
  · unfold aHgt
    rw [hR, hT, hd]
    simp
  · unfold aFre
    rw [hR, sN_zero _ (fun j _ => hR j)]
    simp
/-! sums over parts -/
theorem sN_fib {g : Nat → Nat} {q : Nat → Bool} {f : Nat → Int} {n : Nat} : ∀ k, (∀ o, o < k → g o < n) → sN (fun l => sN (fun o => if (q o && g o == l) = true then f o else 0) k) n = sN (fun o => if q o = true then f o else 0) k
  | 0, _ => sN_zero _ (fun _ _ => rfl)
  | k + 1, h => by
    have ih := sN_fib (g := g) (q := q) (f := f) (n := n) k (fun o ho => h o (by omega))
    simp only [sN]
    rw [sN_add, ih]
    have hp := sN_pick (fun _ => if q k = true then f k else 0) (g k) n
    rw [if_pos (h k (by omega))] at hp
    rw [← hp]
    refine congrArg (fun z => sN (fun o => if q o = true then f o else 0) k + z) (sN_congr _ (fun l _ => ?_))
    unfold zd
    cases hq : q k
    · simp
    · by_cases e : g k = l
      · simp [e]
      · simp [e]
theorem sN_floor {p : Nat → Bool} {y : Nat → Int} {D : Int} (hD : 0 < D) : ∀ n, D * sN (fun j => if p j = true then y j / D else 0) n ≤ sN (fun j => if p j = true then y j else 0) n ∧ sN (fun j => if p j = true then y j else 0) n ≤ D * sN (fun j => if p j = true then y j / D else 0) n + D * sN (fun j => if p j = true then 1 else 0) n
  | 0 => by simp [sN]
  | n + 1 => by
    obtain ⟨h1, h2⟩ := sN_floor (p := p) (y := y) hD n
    simp only [sN]
    rw [Int.mul_add, Int.mul_add]
    by_cases c : p n = true
    · rw [if_pos c, if_pos c, if_pos c]
      have a1 := Int.ediv_mul_le (y n) (show D ≠ 0 by omega)
      have a2 := Int.lt_ediv_add_one_mul_self (y n) hD
      rw [Int.add_mul, Int.one_mul] at a2
      rw [Int.mul_comm D (y n / D), Int.mul_one]
      omega
    · rw [if_neg c, if_neg c, if_neg c, Int.mul_zero]
      omega
theorem sN_ite {p q : Nat → Bool} {f : Nat → Int} (n : Nat) (h : ∀ j, j < n → p j = q j) : sN (fun j => if p j = true then f j else 0) n = sN (fun j => if q j = true then f j else 0) n := sN_congr n (fun j hj => by rw [h j hj])
/-- checks of a part -/
theorem chk_part {A : zNt} (hA : zok A) {l : Nat} (hl : l < nnn A) :
    1000 * (sN (fun o => if ((!nwd A o) && lw A (nfr A o) == l) = true then 1 else 0) (nko A) - sN (fun s => if (true && lw A s == l) = true then 1 else 0) (nnn A) + (if (lw A l == l) = true then 1 else 0)) - sN (fun o => if ((!nwd A o) && lw A (nfr A o) == l) = true then 1 else 0) (nko A) ≤ sN (fun o => if ((!nwd A o) && lw A (nfr A o) == l) = true then aChk A o else 0) (nko A) ∧
    sN (fun o => if ((!nwd A o) && lw A (nfr A o) == l) = true then aChk A o else 0) (nko A) ≤ 1000 * (sN (fun o => if ((!nwd A o) && lw A (nfr A o) == l) = true then 1 else 0) (nko A) - sN (fun s => if (true && lw A s == l) = true then 1 else 0) (nnn A) + (if (lw A l == l) = true then 1 else 0)) := by
  have hk := hA.2.1
  by_cases e : lw A l = l
  · have hp := pT_pos hA hl
    have e1 : ∀ o, o < nko A → ((!nwd A o) && lw A (nfr A o) == l) = pP A l 14 o := fun o ho => by
      have h14 : (o != 14) = true := by simp; omega
      unfold pP
      rw [h14, Bool.and_true]
      cases nwd A o
      · rw [Bool.eq_iff_iff]
        simp only [Bool.not_false, Bool.true_and, beq_iff_eq]
        exact lw_cI e
      · rfl
    have e2 : ∀ s, s < nnn A → (true && lw A s == l) = cI A s l := fun s _ => by
      rw [Bool.true_and, Bool.eq_iff_iff, beq_iff_eq]
      exact lw_cI e
    rw [sN_ite (q := pP A l 14) _ e1, sN_ite (q := pP A l 14) _ e1, sN_ite (q := fun s => cI A s l) _ e2, if_pos (by simp [e])]
    have hz := zcnt_id hA hl
    have hm := TD_miss (S := pS A l) (N := 6) (d0 := l) (A := A) (p := pP A l 14) (pS_in.mpr ⟨hl, cI_rfl A l⟩) (nko A) 0 (fun q => q) (pS_lt hA) (fun o h1 h2 h3 => by
      have := pE_ok hA (t := l) (w := 14) (nfr A o, nto A o, ndf A o, nwt A o) (nEl_mem h3 h1 h2)
      exact this)
    rw [SU_0, SU_0, hz, show TD (pS A l) (nEl A (pP A l 14) 0 (nko A)) (fun q => q) = pT A l 14 from TD_id hA l 14] at hm
    have hx : sN (fun o => if pP A l 14 o = true then TD (pS A l) (nEl A (fun j => pP A l 14 j && j != o) 0 (nko A)) (fun q => q) else 0) (nko A) = sN (fun o => if pP A l 14 o = true then pT A l o else 0) (nko A) := sN_congr _ (fun o _ => by
      by_cases q : pP A l 14 o = true
      · rw [if_pos q, if_pos q, ← pE_w14 hA l o]
        exact TD_id hA l o
      · rw [if_neg q, if_neg q])
    rw [hx] at hm
    have hc : sN (fun o => if pP A l 14 o = true then aChk A o else 0) (nko A) = sN (fun o => if pP A l 14 o = true then 1000 * pT A l o / pT A l 14 else 0) (nko A) := sN_congr _ (fun o _ => by
      by_cases q : pP A l 14 o = true
      · rw [if_pos q, if_pos q]
        simp only [pP, Bool.and_eq_true] at q
        unfold aChk
        rw [pT_cg q.1.2, pT_cg q.1.2]
      · rw [if_neg q, if_neg q])
    obtain ⟨g1, g2⟩ := sN_floor (p := pP A l 14) (y := fun o => 1000 * pT A l o) hp (nko A)
    have hs : sN (fun o => if pP A l 14 o = true then 1000 * pT A l o else 0) (nko A) = 1000 * sN (fun o => if pP A l 14 o = true then pT A l o else 0) (nko A) := by
      rw [← sN_smul]
      exact sN_congr _ (fun o _ => by
        by_cases q : pP A l 14 o = true
        · rw [if_pos q, if_pos q]
        · rw [if_neg q, if_neg q, Int.mul_zero])
    rw [hs, hm] at g1 g2
    rw [hc, zcn_sN (fun s => cI A s l)]
    generalize sN (fun o => if pP A l 14 o = true then 1000 * pT A l o / pT A l 14 else 0) (nko A) = C at *
    generalize sN (fun o => if pP A l 14 o = true then (1 : Int) else 0) (nko A) = m at *
    generalize ((zcn (fun u => cI A u l) (nnn A) : Nat) : Int) = z at *
    generalize pT A l 14 = T at *
    refine ⟨?_, ?_⟩
    · have : T * (1000 * (m - (z - 1))) ≤ T * (C + m) := by
        rw [Int.mul_add, Int.mul_left_comm, Int.mul_comm T (m - (z - 1))]
        exact g2
      have := Int.le_of_mul_le_mul_left this hp
      omega
    · have : T * C ≤ T * (1000 * (m - (z - 1))) := by
        rw [Int.mul_left_comm, Int.mul_comm T (m - (z - 1))]
        exact g1
      have := Int.le_of_mul_le_mul_left this hp
      omega
  · have n1 : ∀ o, o < nko A → ((!nwd A o) && lw A (nfr A o) == l) = false := fun o _ => by
      have : lw A (nfr A o) ≠ l := fun q => e (by rw [← q]; exact lw_lw A _)
      simp [this]
    have n2 : ∀ s, s < nnn A → (true && lw A s == l) = false := fun s _ => by
      have : lw A s ≠ l := fun q => e (by rw [← q]; exact lw_lw A _)
      simp [this]
    rw [sN_zero _ (fun o ho => by rw [n1 o ho]; rfl), sN_zero _ (fun o ho => by rw [n2 o ho]; rfl), sN_zero _ (fun o ho => by rw [n1 o ho]; rfl), if_neg (by simp [e])]
    omega
/-- how many observations are in the net -/
def ninn (A : zNt) (k : Nat) : Nat := zcn (fun o => !nwd A o) k
theorem chk_sum {A : zNt} (hA : zok A) : 1000 * ((ninn A (nko A) : Int) - nnn A + nprt A) - (ninn A (nko A) : Int) ≤ sN (fun o => if (!nwd A o) = true then aChk A o else 0) (nko A) ∧ sN (fun o => if (!nwd A o) = true then aChk A o else 0) (nko A) ≤ 1000 * ((ninn A (nko A) : Int) - nnn A + nprt A) := by
  have hg : ∀ o, o < nko A → lw A (nfr A o) < nnn A := fun o ho => lw_lt (hA.2.2.1 o ho).1
  have s1 := sN_fib (g := fun o => lw A (nfr A o)) (q := fun o => !nwd A o) (f := aChk A) (n := nnn A) (nko A) hg
  have s2 := sN_fib (g := fun o => lw A (nfr A o)) (q := fun o => !nwd A o) (f := fun _ => 1) (n := nnn A) (nko A) hg
  have s3 := sN_fib (g := lw A) (q := fun _ => true) (f := fun _ => 1) (n := nnn A) (nnn A) (fun o ho => lw_lt ho)
  have s4 : sN (fun _ => if (true : Bool) = true then (1 : Int) else 0) (nnn A) = nnn A := by
    have : ∀ n : Nat, sN (fun _ => if (true : Bool) = true then (1 : Int) else 0) n = n := fun n => by
      induction n with
      | zero => rfl
      | succ n ih =>
        show sN (fun _ => if (true : Bool) = true then (1 : Int) else 0) n + (if (true : Bool) = true then (1 : Int) else 0) = _
        rw [ih, if_pos rfl]
        omega
    exact this _
  have s5 : sN (fun l => if (lw A l == l) = true then (1 : Int) else 0) (nnn A) = nprt A := zcn_sN (fun t => lw A t == t) (nnn A)
  have s6 : sN (fun o => if (!nwd A o) = true then (1 : Int) else 0) (nko A) = ninn A (nko A) := zcn_sN (fun o => !nwd A o) (nko A)
  rw [s6] at s2
  rw [s4] at s3
  have lo := sN_le (f := fun l => 1000 * (sN (fun o => if ((!nwd A o) && lw A (nfr A o) == l) = true then 1 else 0) (nko A) - sN (fun s => if (true && lw A s == l) = true then 1 else 0) (nnn A) + (if (lw A l == l) = true then 1 else 0)) - sN (fun o => if ((!nwd A o) && lw A (nfr A o) == l) = true then 1 else 0) (nko A)) (g := fun l => sN (fun o => if ((!nwd A o) && lw A (nfr A o) == l) = true then aChk A o else 0) (nko A)) (nnn A) (fun l hl => (chk_part hA hl).1)
  have hi := sN_le (g := fun l => 1000 * (sN (fun o => if ((!nwd A o) && lw A (nfr A o) == l) = true then 1 else 0) (nko A) - sN (fun s => if (true && lw A s == l) = true then 1 else 0) (nnn A) + (if (lw A l == l) = true then 1 else 0))) (f := fun l => sN (fun o => if ((!nwd A o) && lw A (nfr A o) == l) = true then aChk A o else 0) (nko A)) (nnn A) (fun l hl => (chk_part hA hl).2)
  have r1 : ∀ n : Nat, sN (fun l => 1000 * (sN (fun o => if ((!nwd A o) && lw A (nfr A o) == l) = true then 1 else 0) (nko A) - sN (fun s => if (true && lw A s == l) = true then 1 else 0) (nnn A) + (if (lw A l == l) = true then 1 else 0))) n = 1000 * (sN (fun l => sN (fun o => if ((!nwd A o) && lw A (nfr A o) == l) = true then 1 else 0) (nko A)) n - sN (fun l => sN (fun s => if (true && lw A s == l) = true then 1 else 0) (nnn A)) n + sN (fun l => if (lw A l == l) = true then (1 : Int) else 0) n) := fun n => by
    induction n with
    | zero => rfl
    | succ n ih =>
      simp only [sN] at ih ⊢
      rw [ih]
      omega
  have r2 : ∀ n : Nat, sN (fun l => 1000 * (sN (fun o => if ((!nwd A o) && lw A (nfr A o) == l) = true then 1 else 0) (nko A) - sN (fun s => if (true && lw A s == l) = true then 1 else 0) (nnn A) + (if (lw A l == l) = true then 1 else 0)) - sN (fun o => if ((!nwd A o) && lw A (nfr A o) == l) = true then 1 else 0) (nko A)) n = 1000 * (sN (fun l => sN (fun o => if ((!nwd A o) && lw A (nfr A o) == l) = true then 1 else 0) (nko A)) n - sN (fun l => sN (fun s => if (true && lw A s == l) = true then 1 else 0) (nnn A)) n + sN (fun l => if (lw A l == l) = true then (1 : Int) else 0) n) - sN (fun l => sN (fun o => if ((!nwd A o) && lw A (nfr A o) == l) = true then 1 else 0) (nko A)) n := fun n => by
    induction n with
    | zero => rfl
    | succ n ih =>
      simp only [sN] at ih ⊢
      rw [ih]
      omega
  rw [r2, s1, s2, s3, s5] at lo
  rw [r1, s1, s2, s3, s5] at hi
  exact ⟨lo, hi⟩
/-- free heights of a part add up to nothing, but for what is rounded -/
theorem fre_part {A : zNt} (hA : zok A) {l : Nat} (hl : l < nnn A) : - sN (fun s => if (true && lw A s == l) = true then 1 else 0) (nnn A) ≤ sN (fun s => if (true && lw A s == l) = true then aFre A s else 0) (nnn A) ∧ sN (fun s => if (true && lw A s == l) = true then aFre A s else 0) (nnn A) ≤ 0 := by
  by_cases e : lw A l = l
  · have hp := pT_pos hA hl
    have e2 : ∀ s, s < nnn A → (true && lw A s == l) = cI A s l := fun s _ => by
      rw [Bool.true_and, Bool.eq_iff_iff, beq_iff_eq]
      exact lw_cI e
    rw [sN_ite (q := fun s => cI A s l) _ e2, sN_ite (q := fun s => cI A s l) _ e2]
    have hD : 0 < (((cu A l : Nat) : Int) + 1) * pT A l 14 := Int.mul_pos (by omega) hp
    have hf : sN (fun s => if cI A s l = true then aFre A s else 0) (nnn A) = sN (fun s => if cI A s l = true then 100 * ((((cu A l : Nat) : Int) + 1) * pR0 A l s - sN (pR0 A l) (nnn A)) / ((((cu A l : Nat) : Int) + 1) * pT A l 14) else 0) (nnn A) := sN_congr _ (fun s _ => by
      by_cases q : cI A s l = true
      · have hq : pR0 A s = pR0 A l := funext (fun u => pR0_cg q u)
        rw [if_pos q, if_pos q]
        unfold aFre
        rw [cu_cg q, pT_cg q, hq]
      · rw [if_neg q, if_neg q])
    have hone : sN (fun s => if cI A s l = true then (1 : Int) else 0) (nnn A) = ((cu A l : Nat) : Int) + 1 := (zcn_sN (fun s => cI A s l) (nnn A)).trans (cu_1 hl).symm
    have hsum : sN (fun s => if cI A s l = true then pR0 A l s else 0) (nnn A) = sN (pR0 A l) (nnn A) := sN_congr _ (fun s _ => by
      by_cases q : cI A s l = true
      · rw [if_pos q]
      · rw [if_neg q]
        unfold pR0
        rw [if_neg (fun h => q (by simp only [pU, Bool.and_eq_true] at h; exact h.1))])
    have hy : sN (fun s => if cI A s l = true then 100 * ((((cu A l : Nat) : Int) + 1) * pR0 A l s - sN (pR0 A l) (nnn A)) else 0) (nnn A) = 100 * ((((cu A l : Nat) : Int) + 1) * sN (fun s => if cI A s l = true then pR0 A l s else 0) (nnn A) - sN (fun s => if cI A s l = true then (1 : Int) else 0) (nnn A) * sN (pR0 A l) (nnn A)) := by
      have : ∀ (K R : Int) (n : Nat), sN (fun s => if cI A s l = true then 100 * (K * pR0 A l s - R) else 0) n = 100 * (K * sN (fun s => if cI A s l = true then pR0 A l s else 0) n - sN (fun s => if cI A s l = true then (1 : Int) else 0) n * R) := fun K R n => by
        induction n with
        | zero => simp [sN]
        | succ n ih =>
          simp only [sN]
          rw [ih]
          by_cases q : cI A n l = true
          · rw [if_pos q, if_pos q, if_pos q]
            grind
          · rw [if_neg q, if_neg q, if_neg q]
            simp
      exact this _ _ _
    rw [hsum, hone, Int.sub_self, Int.mul_zero] at hy
    obtain ⟨g1, g2⟩ := sN_floor (p := fun s => cI A s l) (y := fun s => 100 * ((((cu A l : Nat) : Int) + 1) * pR0 A l s - sN (pR0 A l) (nnn A))) hD (nnn A)
    rw [hy] at g1 g2
    rw [hf, hone]
    rw [hone] at g2
    generalize sN (fun s => if cI A s l = true then 100 * ((((cu A l : Nat) : Int) + 1) * pR0 A l s - sN (pR0 A l) (nnn A)) / ((((cu A l : Nat) : Int) + 1) * pT A l 14) else 0) (nnn A) = F at *
    generalize (((cu A l : Nat) : Int) + 1) * pT A l 14 = Dd at *
    generalize ((cu A l : Nat) : Int) + 1 = c at *
    refine ⟨?_, ?_⟩
    · have : Dd * (-c) ≤ Dd * F := by
        rw [Int.mul_neg]
        omega
      exact Int.le_of_mul_le_mul_left this hD
    · have : Dd * F ≤ Dd * 0 := by
        rw [Int.mul_zero]
        exact g1
      exact Int.le_of_mul_le_mul_left this hD
  · have n2 : ∀ s, s < nnn A → (true && lw A s == l) = false := fun s _ => by
      have : lw A s ≠ l := fun q => e (by rw [← q]; exact lw_lw A _)
      simp [this]
    rw [sN_zero _ (fun o ho => by rw [n2 o ho]; rfl), sN_zero _ (fun o ho => by rw [n2 o ho]; rfl)]
    omega
theorem fre_sum {A : zNt} (hA : zok A) : -(nnn A : Int) ≤ sN (aFre A) (nnn A) ∧ sN (aFre A) (nnn A) ≤ 0 := by
  have s1 := sN_fib (g := lw A) (q := fun _ => true) (f := aFre A) (n := nnn A) (nnn A) (fun o ho => lw_lt ho)
  have s3 := sN_fib (g := lw A) (q := fun _ => true) (f := fun _ => 1) (n := nnn A) (nnn A) (fun o ho => lw_lt ho)
  have s4 : ∀ n : Nat, sN (fun _ => if (true : Bool) = true then (1 : Int) else 0) n = n := fun n => by
    induction n with
    | zero => rfl
    | succ n ih =>
      show sN (fun _ => if (true : Bool) = true then (1 : Int) else 0) n + (if (true : Bool) = true then (1 : Int) else 0) = _
      rw [ih, if_pos rfl]
      omega
  have s5 : sN (fun o => if (true : Bool) = true then aFre A o else 0) (nnn A) = sN (aFre A) (nnn A) := sN_congr _ (fun o _ => if_pos rfl)
  rw [s4] at s3
  rw [s5] at s1
  have lo := sN_le (f := fun l => - sN (fun s => if (true && lw A s == l) = true then 1 else 0) (nnn A)) (g := fun l => sN (fun s => if (true && lw A s == l) = true then aFre A s else 0) (nnn A)) (nnn A) (fun l hl => (fre_part hA hl).1)
  have hi := sN_le (g := fun _ => 0) (f := fun l => sN (fun s => if (true && lw A s == l) = true then aFre A s else 0) (nnn A)) (nnn A) (fun l hl => (fre_part hA hl).2)
  have r : ∀ n : Nat, sN (fun l => - sN (fun s => if (true && lw A s == l) = true then 1 else 0) (nnn A)) n = - sN (fun l => sN (fun s => if (true && lw A s == l) = true then 1 else 0) (nnn A)) n := fun n => by
    induction n with
    | zero => rfl
    | succ n ih =>
      simp only [sN] at ih ⊢
      rw [ih]
      omega
  rw [r, s1, s3] at lo
  rw [s1, sN_zero _ (fun _ _ => rfl)] at hi
  exact ⟨lo, hi⟩
end ZFA

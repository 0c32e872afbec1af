/-! WHAT A NET ANSWERS; the class's answers by its equations -/
section ZASK
theorem TD_sub {S : List Nat} {A : zNt} {p : Nat → Bool} {o k : Nat} (hw : ∀ i, i < k → p i = true → 0 < nwt A i) : ∀ m i, i + m ≤ k → ∀ (lab : Nat → Nat) (ris ris2 : Nat → Int), TS S (fun _ => 1) (nEl A (fun j => p j && j != o) i m) lab ris ≤ TS S (fun _ => 1) (nEl A p i m) lab ris2
  | 0, i, h, lab, ris, ris2 => Int.le_refl _
  | m + 1, i, h, lab, ris, ris2 => by
    have ih := TD_sub (S := S) (A := A) (p := p) (o := o) hw m (i + 1) (by omega)
    have hw2 : ∀ e ∈ nEl A p (i + 1) m, 0 < e.2.2.2 := fun e he => by
      obtain ⟨j, h1, h2, h3, rfl⟩ := nEl_in he
      exact hw j (by omega) h3
    simp only [nEl]
    by_cases c : p i = true
    · have h0 := hw i (by omega) c
      rw [if_pos c]
      by_cases e : i = o
      · rw [if_neg (by simp [e])]
        simp only [TS]
        have h1 := ih lab ris ris2
        split
        · omega
        · have h2 := Int.mul_nonneg (Int.le_of_lt h0) (TD_nonneg (S := S) (nEl A p (i + 1) m) hw2 (jl (nfr A i) (nto A i) lab) (jr (nfr A i) (nto A i) (ndf A i) lab ris2))
          omega
      · rw [if_pos (by simp [c, e])]
        simp only [TS]
        have h1 := ih lab ris ris2
        split
        · omega
        · have h2 := Int.mul_le_mul_of_nonneg_left (ih (jl (nfr A i) (nto A i) lab) (jr (nfr A i) (nto A i) (ndf A i) lab ris) (jr (nfr A i) (nto A i) (ndf A i) lab ris2)) (Int.le_of_lt h0)
          omega
    · rw [if_neg c, if_neg (by simp [c])]
      exact ih lab ris ris2
theorem pE_w14 {A : zNt} (hA : zok A) (t o : Nat) : pE A t o = nEl A (fun j => pP A t 14 j && j != o) 0 (nko A) := by
  refine nEl_congr (fun i h1 h2 => ?_)
  have hne : (i != 14) = true := by have := hA.2.1; simp; omega
  unfold pP
  rw [hne, Bool.and_true]
theorem pT_lim {A : zNt} (hA : zok A) {t w : Nat} (ht : t < nnn A) : 0 ≤ pT A t w ∧ pT A t w ≤ 6256250 := zTD_le (pE_lim hA ht) _
theorem pT_sub {A : zNt} (hA : zok A) {t : Nat} (o : Nat) : pT A t o ≤ pT A t 14 := by
  unfold pT
  rw [pE_w14 hA t o]
  exact TD_sub (k := nko A) (fun i hi _ => by have := (hA.2.2.1 i hi).2.2.2.2.1; omega) _ _ (by omega) _ _ _
theorem pR0_le {A : zNt} (hA : zok A) {t : Nat} (ht : t < nnn A) (q : Nat) : -(49995 * pT A t 14) ≤ pR0 A t q ∧ pR0 A t q ≤ 49995 * pT A t 14 := by
  have hT := pT_lim hA (w := 14) ht
  unfold pR0
  by_cases c : pU A t q = true
  · rw [if_pos c]
    have := zP_le (pE_lim hA (w := 14) ht) (c := 9999) (by omega) (pE_d hA) (U := pU A t) q _ (pU_S hA ht c).1 (dat_S ht)
    unfold pR pT
    omega
  · rw [if_neg c]
    omega
noncomputable def aHgt (A : zNt) (t : Nat) : Int := 100 * (pR0 A t t + nth A (dat A t) * pT A t 14) / pT A t 14
noncomputable def aFre (A : zNt) (t : Nat) : Int := 100 * (((cu A t : Int) + 1) * pR0 A t t - sN (pR0 A t) (nnn A)) / (((cu A t : Int) + 1) * pT A t 14)
noncomputable def aMis (A : zNt) (o : Nat) : Int := pR0 A (nfr A o) (nto A o) - pR0 A (nfr A o) (nfr A o) - ndf A o * pT A (nfr A o) 14
noncomputable def aRes (A : zNt) (o : Nat) : Int := 100 * aMis A o / pT A (nfr A o) 14
noncomputable def aChk (A : zNt) (o : Nat) : Int := 1000 * pT A (nfr A o) o / pT A (nfr A o) 14
noncomputable def aNum (A : zNt) (o : Nat) : Int := 100 * (if 0 < aMis A o then aMis A o else - aMis A o) / pT A (nfr A o) 14
noncomputable def aScr (A : zNt) (o : Nat) : Int := if aChk A o = 0 then 0 else aNum A o * aNum A o * nwt A o / aChk A o
noncomputable def aWst (A : zNt) : Nat → Int × Int
  | 0 => (-1, 0)
  | k + 1 => if (if nwd A k = true then 0 else aScr A k) ≤ (aWst A k).2 then aWst A k else ((k : Int), if nwd A k = true then 0 else aScr A k)
theorem dT_le {A : zNt} (hA : zok A) {o : Nat} (ho : o < nko A) : -(9999 * pT A (nfr A o) 14) ≤ ndf A o * pT A (nfr A o) 14 ∧ ndf A o * pT A (nfr A o) 14 ≤ 9999 * pT A (nfr A o) 14 := by
  obtain ⟨f1, f2, f3, f4, f5, f6⟩ := hA.2.2.1 o ho
  have hT := pT_lim hA (w := 14) f1
  exact zmul_le f4 ⟨by omega, Int.le_refl _⟩
theorem aMis_le {A : zNt} (hA : zok A) {o : Nat} (ho : o < nko A) : -(109989 * pT A (nfr A o) 14) ≤ aMis A o ∧ aMis A o ≤ 109989 * pT A (nfr A o) 14 := by
  obtain ⟨f1, f2, f3, f4, f5, f6⟩ := hA.2.2.1 o ho
  have h1 := pR0_le hA f1 (nto A o)
  have h2 := pR0_le hA f1 (nfr A o)
  have h3 := dT_le hA ho
  unfold aMis
  omega
theorem aChk_le {A : zNt} (hA : zok A) {o : Nat} (ho : o < nko A) : 0 ≤ aChk A o ∧ aChk A o ≤ 1000 := by
  have f1 := (hA.2.2.1 o ho).1
  have h1 := pT_pos hA f1
  have h2 := pT_lim hA (w := o) f1
  have h3 := pT_sub hA (t := nfr A o) o
  refine ⟨Int.ediv_nonneg (by omega) (by omega), ?_⟩
  have : aChk A o < 1001 := by
    unfold aChk
    rw [Int.ediv_lt_iff_lt_mul h1]
    omega
  omega
theorem aNum_le {A : zNt} (hA : zok A) {o : Nat} (ho : o < nko A) : 0 ≤ aNum A o ∧ aNum A o ≤ 10998900 := by
  have f1 := (hA.2.2.1 o ho).1
  have h1 := pT_pos hA f1
  have h2 := aMis_le hA ho
  refine ⟨Int.ediv_nonneg (by split <;> omega) (by omega), ?_⟩
  have : aNum A o < 10998901 := by
    unfold aNum
    rw [Int.ediv_lt_iff_lt_mul h1]
    split <;> omega
  omega
theorem aSq_le {A : zNt} (hA : zok A) {o : Nat} (ho : o < nko A) : 0 ≤ aNum A o * aNum A o * nwt A o ∧ aNum A o * aNum A o * nwt A o ≤ 10998900 * 10998900 * 5 := by
  obtain ⟨f1, f2, f3, f4, f5, f6⟩ := hA.2.2.1 o ho
  have h1 := aNum_le hA ho
  have h2 := zmul_le (a := aNum A o) (b := aNum A o) (A := 10998900) (B := 10998900) (by omega) (by omega)
  have h3 := Int.mul_nonneg h1.1 h1.1
  have h4 := zmul_le (a := aNum A o * aNum A o) (b := nwt A o) (A := 10998900 * 10998900) (B := 5) (by omega) (by omega)
  have h5 := Int.mul_nonneg h3 (show 0 ≤ nwt A o by omega)
  omega
theorem aScr_le {A : zNt} (hA : zok A) {o : Nat} (ho : o < nko A) : 0 ≤ aScr A o ∧ aScr A o ≤ 10998900 * 10998900 * 5 := by
  have h1 := aChk_le hA ho
  have h2 := aSq_le hA ho
  unfold aScr
  by_cases c : aChk A o = 0
  · rw [if_pos c]
    omega
  · rw [if_neg c]
    refine ⟨Int.ediv_nonneg h2.1 h1.1, Int.le_trans (Int.ediv_le_self _ h2.1) h2.2⟩
theorem aWst_le {A : zNt} (hA : zok A) : ∀ k, k ≤ nko A → (-1 ≤ (aWst A k).1 ∧ (aWst A k).1 < k) ∧ 0 ≤ (aWst A k).2 ∧ (aWst A k).2 ≤ 10998900 * 10998900 * 5
  | 0, _ => by simp [aWst]
  | k + 1, h => by
    have ih := aWst_le hA k (by omega)
    have h1 := aScr_le hA (o := k) (by omega)
    simp only [aWst]
    by_cases c : (if nwd A k = true then 0 else aScr A k) ≤ (aWst A k).2
    · rw [if_pos c]
      omega
    · rw [if_neg c]
      dsimp only
      split <;> omega
abbrev zScr (s s' : zS) : Prop := zSm [2, 3] [0] [8] [0, 1, 2, 3, 4] s s'
theorem hx14 {A : zNt} (hA : zok A) : ∀ o, o < nko A → (nI o = (-1 : Int32) ↔ o = 14) := fun o ho => by
  have := hA.2.1
  refine ⟨fun q => ?_, fun q => by omega⟩
  have := congrArg Int32.toInt q
  rw [nI_toInt (by omega)] at this
  have e2 : (-1 : Int32).toInt = -1 := rfl
  omega
theorem hxo {A : zNt} (hA : zok A) {w : Nat} (hw : w < nko A) : ∀ o, o < nko A → (nI o = nI w ↔ o = w) := fun o ho => nI_eq (by have := hA.2.1; omega) (by have := hA.2.1; omega)
theorem W_treeWeightOf {A : zNt} (hA : zok A) {s : zS} (hR : RX A s) {t : Nat} (ht : t < nnn A) (Q : Int64 → zS → Prop) (hQ : ∀ s', zScr s s' → CS A t 14 s' → Q (lI (pT A t 14)) s') : W_X0_treeWeightOf s (nI t) Q :=
  W_solve hA hR ht (hx14 hA) _ (fun s' hS hC => by
    show Q (gJ s' 0) s'
    rw [hC.2.2.1]
    exact hQ s' hS hC)
theorem W_heightOf {A : zNt} (hA : zok A) {s : zS} (hR : RX A s) {t : Nat} (ht : t < nnn A) (Q : Int64 → zS → Prop) (hQ : ∀ s', zScr s s' → CS A t 14 s' → Q (lI (aHgt A t)) s') : W_X0_heightOf s (nI t) Q := by
  refine W_solve hA hR ht (hx14 hA) _ (fun s' hS hC => W_riseOf hA ht hC ht _ ?_)
  have hn := hA.1
  have hd := dat_lt ht
  have hT := pT_lim hA (w := 14) ht
  have hp := pT_pos hA ht
  have hr := pR0_le hA ht t
  obtain ⟨g1, g2⟩ := hA.2.2.2.1 (dat A t) (by omega)
  have hm := zmul_le (a := nth A (dat A t)) (b := pT A t 14) (A := 9999) (B := 6256250) (by omega) (by omega)
  rw [hC.2.1.2.1]
  refine ⟨vp_in_nI (by omega) (by omega), nm_r (e' := lI (pR0 A t t + nth A (dat A t) * pT A t 14)) ?_ ?_⟩
  · rw [ix_nI (by omega), (hC.1.1.2.2.1 _ (by omega)).2, iI_l ⟨by omega, by omega⟩, hC.2.2.1, lI_mul, lI_add]
  · rw [hC.2.2.1, lI_100, lI_mul]
    exact W_roundedDown ⟨by omega, by omega⟩ hp ⟨by omega, by omega⟩ _ (hQ s' hS hC)
theorem W_freeHeightOf {A : zNt} (hA : zok A) {s : zS} (hR : RX A s) {t : Nat} (ht : t < nnn A) (Q : Int64 → zS → Prop) (hQ : ∀ s', zScr s s' → CS A t 14 s' → Q (lI (aFre A t)) s') : W_X0_freeHeightOf s (nI t) Q := by
  refine W_solve hA hR ht (hx14 hA) _ (fun s' hS hC => nm_e (nm_e ?_))
  have hn := hA.1
  have hu := cu_le hA ht
  have hT := pT_lim hA (w := 14) ht
  have hp := pT_pos hA ht
  obtain ⟨m, hm⟩ := pk_loop (fun m i (_ : Unit) => W_X0_freeHeightOf_L11 (nI t) Q (fun v s2 => v = lI (sN (pR0 A t) (nnn A)) ∧ s2 = s') m (lI (sN (pR0 A t) i)) (nI i) s') (fun _ _ => True) (nnn A) 0 () (Nat.zero_le _) trivial
    (fun m _ _ => br_t (c_le hC.1.1.1 (Nat.le_refl _) (by omega)) ⟨rfl, rfl⟩)
    (fun m i _ hi _ hgo => by
      refine br_f (c_nle hC.1.1.1 hi (by omega)) (W_riseOf hA ht hC hi _ (nm_r (lI_add _ _) (nm_r (nI_1 i) (hgo () trivial))))
      )
  refine ⟨_, m, fun v s2 hv => ?_, hm⟩
  obtain ⟨rfl, rfl⟩ := hv
  refine nm_r (e' := lI ((cu A t : Int) + 1)) ?_ (W_riseOf hA ht hC ht _ ?_)
  · rw [hC.2.1.1, nI_iI, iI_l ⟨by omega, by omega⟩, lI_1, lI_add]
  · have hr := pR0_le hA ht t
    have hs := sN_abs (f := pR0 A t) (B := 49995 * pT A t 14) (by omega) (nnn A) (fun j _ => pR0_le hA ht j)
    have h1 : (nnn A : Int) * (49995 * pT A t 14) ≤ 6 * (49995 * pT A t 14) := Int.mul_le_mul_of_nonneg_right (by omega) (by omega)
    have h2 := zmul_le (a := (cu A t : Int) + 1) (b := pR0 A t t) (A := 6) (B := 49995 * pT A t 14) (by omega) hr
    have h3 := zmul_le (a := (cu A t : Int) + 1) (b := pT A t 14) (A := 6) (B := 6256250) (by omega) (by omega)
    have h4 := Int.mul_pos (show 0 < (cu A t : Int) + 1 by omega) hp
    rw [hC.2.2.1, lI_mul, lI_sub, lI_100, lI_mul, lI_mul]
    exact W_roundedDown ⟨by omega, by omega⟩ h4 ⟨by omega, by omega⟩ _ (hQ _ hS hC)
theorem W_misfitOf {A : zNt} (hA : zok A) {s : zS} (hR : RX A s) {o : Nat} (ho : o < nko A) (Q : Int64 → zS → Prop) (hQ : ∀ s', zScr s s' → CS A (nfr A o) 14 s' → Q (lI (aMis A o)) s') : W_X0_misfitOf s (nI o) Q := by
  have hn := hA.1
  have hk := hA.2.1
  obtain ⟨f1, f2, f3, f4, f5, f6⟩ := hA.2.2.1 o ho
  have hin : vp_in (nI o) 14 := vp_in_nI (by omega) (by omega)
  refine ⟨hin, nm_r (e' := nI (nfr A o)) (by rw [ix_nI (by omega)]; exact (hR.1.2.2.2.1 o ho).1) ?_⟩
  refine W_solve hA hR f1 (hx14 hA) _ (fun s' hS hC => ⟨hin, ?_⟩)
  obtain ⟨e3, e4, e5, e6⟩ := hC.1.1.2.2.2.1 o ho
  rw [ix_nI (by omega), e4]
  refine W_riseOf hA f1 hC f2 _ (W_riseOf hA f1 hC f1 _ ⟨hin, ?_⟩)
  rw [e5, iI_l ⟨by omega, by omega⟩, hC.2.2.1, lI_sub, lI_mul, lI_sub]
  exact hQ s' hS hC
theorem W_residualOf {A : zNt} (hA : zok A) {s : zS} (hR : RX A s) {o : Nat} (ho : o < nko A) (Q : Int64 → zS → Prop) (hQ : ∀ s', zScr s s' → RX A s' → Q (lI (aRes A o)) s') : W_X0_residualOf s (nI o) Q := by
  have f1 := (hA.2.2.1 o ho).1
  have hT := pT_lim hA (w := 14) f1
  have hm := aMis_le hA ho
  refine W_misfitOf hA hR ho _ (fun s' hS hC => nm_e ?_)
  rw [hC.2.2.1, lI_100, lI_mul]
  exact W_roundedDown ⟨by omega, by omega⟩ (pT_pos hA f1) ⟨by omega, by omega⟩ _ (hQ s' hS hC.1)
theorem W_checkAgainst {A : zNt} (hA : zok A) {s : zS} (hR : RX A s) {o : Nat} (ho : o < nko A) {x : Int64} (hx : x = lI (pT A (nfr A o) 14)) (Q : Int32 → zS → Prop) (hQ : ∀ s', zScr s s' → RX A s' → Q (iI (aChk A o)) s') : W_X0_checkAgainst s (nI o) x Q := by
  subst hx
  have hn := hA.1
  have hk := hA.2.1
  have f1 := (hA.2.2.1 o ho).1
  have hT := pT_lim hA (w := 14) f1
  have hTo := pT_lim hA (w := o) f1
  refine ⟨vp_in_nI (by omega) (by omega), ?_⟩
  rw [ix_nI (by omega), (hR.1.2.2.2.1 o ho).1]
  refine W_solve hA hR f1 (hxo hA ho) _ (fun s' hS hC => ?_)
  rw [hC.2.2.1, lI_1000, lI_mul]
  refine W_roundedDown ⟨by omega, by omega⟩ (pT_pos hA f1) ⟨by omega, by omega⟩ _ ?_
  rw [lI_i]
  exact hQ s' hS hC.1
theorem W_checkOf {A : zNt} (hA : zok A) {s : zS} (hR : RX A s) {o : Nat} (ho : o < nko A) (Q : Int32 → zS → Prop) (hQ : ∀ s', zScr s s' → RX A s' → Q (iI (aChk A o)) s') : W_X0_checkOf s (nI o) Q := by
  have hn := hA.1
  have hk := hA.2.1
  have f1 := (hA.2.2.1 o ho).1
  refine ⟨vp_in_nI (by omega) (by omega), ?_⟩
  rw [ix_nI (by omega), (hR.1.2.2.2.1 o ho).1]
  exact W_treeWeightOf hA hR f1 _ (fun s1 hS1 hC1 => W_checkAgainst hA hC1.1 ho rfl _ (fun s2 hS2 hR2 => hQ s2 (hS1.tr hS2) hR2))
theorem W_scoreOf {A : zNt} (hA : zok A) {s : zS} (hR : RX A s) {o : Nat} (ho : o < nko A) (Q : Int64 → zS → Prop) (hQ : ∀ s', zScr s s' → RX A s' → Q (lI (aScr A o)) s') : W_X0_scoreOf s (nI o) Q := by
  have hn := hA.1
  have hk := hA.2.1
  obtain ⟨f1, f2, f3, f4, f5, f6⟩ := hA.2.2.1 o ho
  have hT := pT_lim hA (w := 14) f1
  have hm := aMis_le hA ho
  have hc := aChk_le hA ho
  have hsq := aSq_le hA ho
  refine W_misfitOf hA hR ho _ (fun s1 hS1 hC1 => nm_e ?_)
  have habs : (if 0 < lI (aMis A o) then lI (aMis A o) else -lI (aMis A o)) = lI (if 0 < aMis A o then aMis A o else - aMis A o) := by
    have : (0 : Int64) < lI (aMis A o) ↔ 0 < aMis A o := lI_lt (a := 0) ⟨by omega, by omega⟩ ⟨by omega, by omega⟩
    by_cases c : 0 < aMis A o
    · rw [if_pos (this.mpr c), if_pos c]
    · rw [if_neg (fun q => c (this.mp q)), if_neg c, lI_neg]
  rw [habs, hC1.2.2.1, lI_100, lI_mul]
  refine W_roundedDown ⟨by split <;> omega, by split <;> omega⟩ (pT_pos hA f1) ⟨by omega, by omega⟩ _ (nm_e ?_)
  refine W_checkAgainst hA hC1.1 ho rfl _ (fun s2 hS2 hR2 => nm_e ?_)
  have h0 : iI (aChk A o) = 0 ↔ aChk A o = 0 := iI_eq (b := 0) ⟨by omega, by omega⟩ ⟨by omega, by omega⟩
  have hQ' := hQ s2 (hS1.tr hS2) hR2
  unfold aScr at hQ'
  refine nt_c (fun c => ⟨vp_in_nI (by omega) (by omega), ?_⟩) (fun c => ?_)
  · have c2 : aChk A o ≠ 0 := fun q => c (h0.mpr q)
    rw [if_neg c2] at hQ'
    rw [ix_nI (by omega), (hR2.1.2.2.2.1 o ho).2.2.2, iI_l ⟨by omega, by omega⟩, iI_l ⟨by omega, by omega⟩, lI_mul, lI_mul]
    exact W_roundedDown (show zB (aNum A o * aNum A o * nwt A o) from ⟨by omega, by omega⟩) (by omega) ⟨by omega, by omega⟩ _ hQ'
  · rw [if_pos (h0.mp c)] at hQ'
    exact hQ'
theorem W_worst {A : zNt} (hA : zok A) {s : zS} (hR : RX A s) (Q : Int32 → zS → Prop) (hQ : ∀ s', zScr s s' → RX A s' → Q (iI (aWst A (nko A)).1) s') : W_X0_worstObservation s Q := by
  have hk := hA.2.1
  refine nm_e (nm_e (nm_e ?_))
  obtain ⟨I, eI⟩ : ∃ I : Nat → zS → Prop, I = fun _ s' => zScr s s' ∧ RX A s' := ⟨_, rfl⟩
  obtain ⟨m, hm⟩ := pk_loop (fun m o s' => W_X0_worstObservation_L7 Q (fun v s' => v = iI (aWst A (nko A)).1 ∧ I (nko A) s') m (iI (aWst A o).1) (lI (aWst A o).2) (nI o) s') I (nko A) 0 s (Nat.zero_le _)
    (by rw [eI]; exact ⟨zSm.rf s, hR⟩)
    (fun m s' hI => br_t (by
      rw [eI] at hI
      exact c_le hI.2.1.2.1 (Nat.le_refl _) (by omega)) ⟨rfl, hI⟩)
    (fun m o s' ho hI hgo => by
      rw [eI] at hI
      obtain ⟨hS, hR'⟩ := hI
      have hs := aScr_le hA ho
      have hw := aWst_le hA o (by omega)
      refine br_f (c_nle hR'.1.2.1 ho (by omega)) ⟨vp_in_nI (by omega) (by omega), fun v s2 => v = lI (if nwd A o = true then 0 else aScr A o) ∧ I (o + 1) s2, fun v s2 hv => nm_e ?_, ?_⟩
      · obtain ⟨rfl, hI2⟩ := hv
        have hle : lI (if nwd A o = true then 0 else aScr A o) ≤ lI (aWst A o).2 ↔ (if nwd A o = true then 0 else aScr A o) ≤ (aWst A o).2 := lI_le ⟨by split <;> omega, by split <;> omega⟩ ⟨by omega, by omega⟩
        have hg := hgo s2 hI2
        simp only [aWst] at hg
        refine br_c (fun c => nm_r (nI_1 o) ?_) (fun c => nm_e (nm_e (nm_r (nI_1 o) ?_)))
        · rw [if_pos (hle.mp c)] at hg
          exact hg
        · rw [if_neg (fun q => c (hle.mpr q))] at hg
          rw [nI_iI o]
          exact hg
      · rw [ix_nI (by omega), hR'.1.2.2.2.2 o (by omega)]
        refine br_c (fun c => W_scoreOf hA hR' ho _ (fun s2 hS2 hR2 => ⟨?_, ?_⟩)) (fun c => ⟨?_, ?_⟩)
        · rw [if_neg (by rw [bI_0.mp c]; decide)]
        · rw [eI]
          exact ⟨hS.tr hS2, hR2⟩
        · rw [if_pos (bI_n0.mp c)]
          rfl
        · rw [eI]
          exact ⟨hS, hR'⟩)
  refine ⟨_, m, fun v s' hv => ?_, hm⟩
  obtain ⟨rfl, hI⟩ := hv
  rw [eI] at hI
  exact hQ s' hI.1 hI.2
end ZASK

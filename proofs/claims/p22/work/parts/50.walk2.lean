/-! THE CLASS'S ANSWERS BY ALL TREES -/
section ZWALK2
theorem zcn_sN (p : Nat → Bool) : ∀ n, sN (fun q => if p q = true then 1 else 0) n = (zcn p n : Int)
  | 0 => rfl
  | n + 1 => by
    simp only [sN, zcn]
    rw [zcn_sN p n]
    split <;> simp
theorem zcn_ext {p : Nat → Bool} {n : Nat} : ∀ m, n ≤ m → (∀ q, n ≤ q → q < m → p q = false) → zcn p m = zcn p n
  | 0, h, _ => by rw [show n = 0 by omega]
  | m + 1, h, h2 => by
    by_cases e : n = m + 1
    · rw [e]
    · simp only [zcn]
      rw [if_neg (by rw [h2 m (by omega) (by omega)]; decide), zcn_ext m (by omega) (fun q q1 q2 => h2 q q1 (by omega))]
theorem zcnt_id {A : zNt} (hA : zok A) {t : Nat} (ht : t < nnn A) : zcnt (pS A t) 6 (fun q => q) = (zcn (fun u => cI A u t) (nnn A) : Int) := by
  have hn := hA.1
  rw [← zcn_ext (p := fun u => cI A u t) (n := nnn A) 6 hn (fun q h1 h2 => by
    cases hh : cI A q t
    · rfl
    · have := (cI_lt hA hh).mpr ht
      omega), ← zcn_sN]
  unfold zcnt
  refine sN_congr 6 (fun q hq => ?_)
  unfold zat
  refine zite ⟨fun ⟨s, h1, h2⟩ => ?_, fun h => ⟨q, pS_in.mpr ⟨(cI_lt hA h).mpr ht, h⟩, rfl⟩⟩
  rw [← h2]
  exact (pS_in.mp h1).2
theorem lU_S {A : zNt} {t s : Nat} (hs : s ∈ pS A t) : lU (pU A t) (dat A t) s = s := by
  unfold lU pU
  rw [(pS_in.mp hs).2]
  by_cases e : s = dat A t
  · simp [e]
  · simp [e]
theorem TD_id {A : zNt} (hA : zok A) (t w : Nat) : TS (pS A t) (fun _ => 1) (pE A t w) (fun q => q) (fun _ => 0) = pT A t w := by
  unfold pT
  exact TS_S (fun _ _ _ => rfl) _ (pE_ok hA) _ _ _ _ (fun s hs => ⟨(lU_S hs).symm, rfl⟩)
theorem TR_id {A : zNt} (hA : zok A) {t a : Nat} (ht : t < nnn A) (ha : a ∈ pS A t) : TS (pS A t) (fun q => q a - q (dat A t)) (pE A t 14) (fun q => q) (fun _ => 0) = pR0 A t a := by
  have h : TS (pS A t) (fun q => q a - q (dat A t)) (pE A t 14) (fun q => q) (fun _ => 0) = pR A t a := by
    unfold pR
    exact TS_S (fun r r2 h => by rw [h a ha, h _ (dat_S ht)]) _ (pE_ok hA) _ _ _ _ (fun s hs => ⟨(lU_S hs).symm, rfl⟩)
  rw [h]
  unfold pR0
  by_cases c : pU A t a = true
  · rw [if_pos c]
  · rw [if_neg c]
    have e : a = dat A t := by
      by_cases e : a = dat A t
      · exact e
      · exact absurd (show pU A t a = true by unfold pU; rw [(pS_in.mp ha).2]; simp [e]) c
    rw [e, pR_d]
abbrev zScw (s s' : zS) : Prop := zSm [4, 5, 6, 7] [1, 2, 3] [9, 10, 11, 12, 13, 14, 15, 16, 17, 18, 19, 20] [] s s'
theorem W_walk {A : zNt} (hA : zok A) {s : zS} (hR : RX A s) {t x : Nat} (ht : t < nnn A) {y : Int32} (hy : ∀ o, o < nko A → (nI o = y ↔ o = x)) (Q : zS → Prop)
    (hQ : ∀ s', zScw s s' → RX A s' → gI s' 5 = nI (dat A t) → gJ s' 1 = lI (pT A t 14) → gJ s' 2 = lI (pT A t 14 - TS (pS A t) (fun _ => 1) (nEl A (fun j => pP A t 14 j && j != x) 0 (nko A)) (fun q => q) (fun _ => 0)) → gJ s' 3 = lI (pR0 A t t) → Q s') : W_X3_walk s (nI t) y Q := by
  have hn := hA.1
  have hd := dat_lt ht
  have htS : t ∈ pS A t := pS_in.mpr ⟨ht, cI_rfl A t⟩
  refine nm_e (nm_e ?_)
  have hS2 : zScw s (sI (sI s 6 (nI t)) 7 y) := ((zSm.rf s).tI (by simp) _).tI (by simp) _
  have hkeep : ∀ s', zScw s s' → RX A s' := fun s' h => hR.sm h ⟨by simp, by simp⟩ ⟨by simp, by simp, by simp, by simp, by simp, by simp, by simp⟩ (by simp)
  refine W_datumOf hA (hkeep _ hS2) ht _ (nm_e ?_)
  have hS6 : zScw s (sI (sI (sI s 6 (nI t)) 7 y) 5 (nI (dat A t))) := hS2.tI (by simp) _
  refine W_countStationsWith hA (hkeep _ hS6) ht _ (nm_e (nm_e (nm_e (nm_e (nm_e ?_)))))
  obtain ⟨br, hbr⟩ : ∃ br, zcn (fun u => cI A u t) (nnn A) = br + 1 := by
    have : 0 < zcn (fun u => cI A u t) (nnn A) := Nat.lt_of_le_of_lt (Nat.zero_le _) (zcn_lt ht (cI_rfl A t))
    exact ⟨zcn (fun u => cI A u t) (nnn A) - 1, by omega⟩
  have hle := zcn_le (fun u => cI A u t) (nnn A)
  rw [hbr, nI_pred]
  generalize e13 : sJ (sJ (sJ (sI (sI (sI (sI s 6 (nI t)) 7 y) 5 (nI (dat A t))) 4 (nI br)) 1 0) 2 0) 3 0 = s13
  have hS13 : zScw s s13 := by
    rw [← e13]
    exact (((hS6.tI (by simp) _).tJ (by simp) _).tJ (by simp) _).tJ (by simp) _
  have hG13 : gI s13 4 = nI br ∧ gI s13 5 = nI (dat A t) ∧ gI s13 6 = nI t ∧ gI s13 7 = y ∧ gJ s13 1 = 0 ∧ gJ s13 2 = 0 ∧ gJ s13 3 = 0 := by
    rw [← e13]
    exact ⟨rfl, rfl, rfl, rfl, rfl, rfl, rfl⟩
  clear e13
  obtain ⟨I, eI⟩ : ∃ I : Nat → zS → Prop, I = fun i s' => zSm [] [] [9, 15] [] s13 s' ∧ ∀ q, q < i → gF s' 9 q = nI q ∧ gF s' 15 q = iI 0 := ⟨_, rfl⟩
  have v0 : vp_in 0 6 := vp_in_nI (n := 0) (by omega) (by omega)
  have i0 : ix 0 = 0 := rfl
  obtain ⟨m, hm⟩ := pk_loop (fun m i s' => W_X3_walk_L53 Q (I (nnn A)) m (nI i) s') I (nnn A) 0 s13 (Nat.zero_le _)
    (by rw [eI]; exact ⟨zSm.rf s13, fun q hq => by omega⟩)
    (fun m s' hI => br_t (by
      rw [eI] at hI
      exact c_le ((hI.1.1 0 (by simp)).trans (hkeep _ hS13).1.1) (Nat.le_refl _) (by omega)) hI)
    (fun m i s' hi hI hgo => by
      rw [eI] at hI
      have vi : vp_in (nI i) 6 := vp_in_nI (by omega) (by omega)
      refine br_f (c_nle ((hI.1.1 0 (by simp)).trans (hkeep _ hS13).1.1) hi (by omega)) ⟨v0, vi, nm_e ⟨v0, vi, nm_e (nm_r (nI_1 i) (hgo _ ?_))⟩⟩
      rw [i0, ix_nI (by omega), Nat.add_zero, Nat.add_zero, eI]
      refine ⟨(hI.1.tF (by simp) _ _).tF (by simp) _ _, fun q hq => ?_⟩
      rw [gF_sFn _ (by decide), gF_sFs, gF_sFs, gF_sFn _ (by decide)]
      by_cases e : q = i
      · rw [if_pos e, if_pos e, e]
        exact ⟨rfl, rfl⟩
      · rw [if_neg e, if_neg e]
        exact hI.2 q (by omega))
  refine ⟨_, m, fun s1 hI => ?_, hm⟩
  rw [eI] at hI
  obtain ⟨hS1, hq1⟩ := hI
  have hS1' : zScw s s1 := hS13.tr (hS1.mono (by simp) (by simp) (by simp) (by simp))
  have hG1 : GW A t t x br s1 := ⟨hkeep _ hS1', by rw [hS1.1 4 (by simp)]; exact hG13.1, by rw [hS1.1 5 (by simp)]; exact hG13.2.1, by rw [hS1.1 6 (by simp)]; exact hG13.2.2.1, by rw [hS1.1 7 (by simp), hG13.2.2.2.1]; exact hy⟩
  have hz := zcnt_id hA ht
  rw [hbr] at hz
  refine W_grow hA ht htS (br := br) (by omega) 6 s1 0 0 1 false (fun q => q) (fun _ => 0) _ hG1 hq1 (fun q hq => by omega) (Nat.zero_le _) (by rw [hz]; simp) (by omega) (zspr_0 (pS_lt hA) (by omega) _) (Nat.zero_le _) (fun s2 hS2 hGA => ?_)
  have hS2' : zScw s s2 := hS1'.tr (hS2.1.mono (by simp) (by simp) (by simp) (by simp))
  obtain ⟨g1, g2, g3⟩ := hGA
  rw [hS1.2.1 1 (by simp), hG13.2.2.2.2.1, Int64.zero_add, Int.one_mul, Nat.sub_zero] at g1
  rw [hS1.2.1 2 (by simp), hG13.2.2.2.2.2.1, Int64.zero_add, Int.one_mul, Nat.sub_zero] at g2
  rw [hS1.2.1 3 (by simp), hG13.2.2.2.2.2.2, Int64.zero_add, Int.one_mul, Nat.sub_zero] at g3
  have e1 := TD_id hA t 14
  have e3 := TR_id hA ht htS
  unfold pE at e1 e3
  unfold TH at g2
  rw [if_neg (by decide), e1] at g2
  rw [e1] at g1
  rw [e3] at g3
  exact hQ s2 hS2' (hkeep _ hS2') ((hG1.keep hS2).2.2.1) g1 g2 g3
theorem W_walkHeight {A : zNt} (hA : zok A) {s : zS} (hR : RX A s) {t : Nat} (ht : t < nnn A) (Q : Int64 → zS → Prop) (hQ : ∀ s', zScw s s' → RX A s' → Q (lI (aHgt A t)) s') : W_X3_heightOf s (nI t) Q := by
  have hn := hA.1
  have hd := dat_lt ht
  have hT := pT_lim hA (w := 14) ht
  have hp := pT_pos hA ht
  have hr := pR0_le hA ht t
  obtain ⟨g1, g2⟩ := hA.2.2.2.1 (dat A t) (by omega)
  have hm := zmul_le (a := nth A (dat A t)) (b := pT A t 14) (A := 9999) (B := 6256250) (by omega) (by omega)
  refine W_walk hA hR ht (hx14 hA) _ (fun s' hS hR' h5 h1 h2 h3 => ?_)
  rw [h5]
  refine ⟨vp_in_nI (by omega) (by omega), nm_r (e' := lI (pR0 A t t + nth A (dat A t) * pT A t 14)) ?_ ?_⟩
  · rw [ix_nI (by omega), (hR'.1.2.2.1 _ (by omega)).2, iI_l ⟨by omega, by omega⟩, h1, h3, lI_mul, lI_add]
  · rw [h1, lI_100, lI_mul]
    exact W_roundedDown ⟨by omega, by omega⟩ hp ⟨by omega, by omega⟩ _ (hQ s' hS hR')
theorem W_walkCheck {A : zNt} (hA : zok A) {s : zS} (hR : RX A s) {o : Nat} (ho : o < nko A) (Q : Int32 → zS → Prop) (hQ : ∀ s', zScw s s' → RX A s' → Q (iI (aChk A o)) s') : W_X3_checkOf s (nI o) Q := by
  have hn := hA.1
  have hk := hA.2.1
  have f1 := (hA.2.2.1 o ho).1
  have hT := pT_lim hA (w := 14) f1
  have hTo := pT_lim hA (w := o) f1
  refine ⟨vp_in_nI (by omega) (by omega), ?_⟩
  rw [ix_nI (by omega), (hR.1.2.2.2.1 o ho).1]
  refine W_walk hA hR f1 (hxo hA ho) _ (fun s' hS hR' h5 h1 h2 h3 => ?_)
  have e := TD_id hA (nfr A o) o
  rw [pE_w14 hA] at e
  rw [e] at h2
  rw [h1, h2, lI_sub, lI_1000, lI_mul, show pT A (nfr A o) 14 - (pT A (nfr A o) 14 - pT A (nfr A o) o) = pT A (nfr A o) o by omega]
  refine W_roundedDown ⟨by omega, by omega⟩ (pT_pos hA f1) ⟨by omega, by omega⟩ _ ?_
  rw [lI_i]
  exact hQ s' hS hR'
end ZWALK2

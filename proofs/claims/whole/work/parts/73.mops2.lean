/-! THE MODEL DOES SO (2) -/
section ZMOPS2
theorem mk1 {A : zNt} {P : zPa} {s : zS} (h : SM A P s) (c : Nat) (r : Int64) : mkM (c + 1, 0, A, P) r (sI s 5 (nI (c + 1))) := ⟨rfl, fun q => absurd (show c + 1 = 0 from q) (by omega), h.th _⟩
theorem SM_wd {A : zNt} {P : zPa} {s : zS} (h : SM A P s) {j : Nat} (hj : j < nko A) (b : Bool) : SM (setWd A j b) P (sF s 6 j (bI b)) := by
  have hS : zSm [] [] [6] [] s (sF s 6 j (bI b)) := (zSm.rf s).tF (by simp) _ _
  refine ⟨setWd_ok h.1 hj b, h.2.1, ?_, h.2.2.2.sm hS ⟨by simp, by simp⟩ (by simp)⟩
  obtain ⟨r0, r1, r2, r3, r4⟩ := h.2.2.1
  refine ⟨r0, r1, r2, r3, fun q hq => ?_⟩
  rw [gF_sFs]
  show _ = bI (zup (nwd A) j b q)
  by_cases e : q = j
  · rw [if_pos e, e, zup_s]
  · rw [if_neg e, zup_n _ _ e]
    exact r4 q hq
theorem M_withdraw {A : zNt} {P : zPa} {s : zS} (h : SM A P s) (x : Int32) (b : Bool) : W_X5_withdraw s x (bI b) (fun r => mkM (oWithdraw A P x b) (if r = 0 then 0 else 1)) := by
  have hk := h.1.2.1
  unfold oWithdraw
  refine W_isOb h x _ (fun j hj e ho => ?_) (fun ho => ?_)
  · rw [ho]
    subst e
    dsimp only
    have vj : vp_in (nI j) 14 := vp_in_nI (by omega) (by omega)
    refine ⟨fun v => v = 0, fun v hv => ?_, br_f (by decide) rfl⟩
    subst hv
    refine W_go0 _ (nt_t (by decide) ⟨vj, nm_r (e' := bI (nwd A j)) (by rw [ix_nI (by omega)]; exact h.2.2.1.2.2.2.2 j (by omega)) ⟨vj, nm_e ⟨bI_nar _, ?_⟩⟩⟩)
    rw [ix_nI (by omega), vn_bI]
    exact ⟨rfl, fun _ => bI_l _, SM_wd (h.th 0) hj b⟩
  · rw [ho]
    refine ⟨fun v => v = nI 1, fun v hv => ?_, br_t rfl rfl⟩
    subst hv
    exact W_go1 (by omega) (by omega) _ (nt_f rfl (mk1 h 0 _))
/-- what station questions share -/
theorem M_st {A : zNt} {P : zPa} {s : zS} (h : SM A P s) (x : Int32) (f : Nat → Int) (G : Int32 → zS → Prop) (h1 : ∀ j, j < nnn A → x = nI j → zopt x (nnn A) = some j → G 1 (sI s 5 0)) (h0 : zopt x (nnn A) = none → G 0 (sI s 5 1)) : W_X5_isStation s x (fun r1 => ∃ k4 : Int32 → Prop, (∀ v7 : Int32, k4 v7 → W_X5_goes s v7 G) ∧ ((r1 = 0 → k4 1) ∧ (¬ r1 = 0 → k4 0))) := by
  refine W_isSt h x _ (fun j hj e ho => ⟨fun v => v = 0, fun v hv => ?_, br_f (by decide) rfl⟩) (fun ho => ⟨fun v => v = nI 1, fun v hv => ?_, br_t rfl rfl⟩)
  · subst hv
    exact W_go0 _ (h1 j hj e ho)
  · subst hv
    exact W_go1 (by omega) (by omega) _ (h0 ho)
theorem M_height {A : zNt} {P : zPa} {s : zS} (h : SM A P s) (x : Int32) : W_X5_height s x (fun r => mkM (oSt A P (aHgt A) x) r) := by
  unfold oSt
  refine M_st h x (aHgt A) _ (fun j hj e ho => br_f (by decide) ?_) (fun ho => br_t rfl (by rw [ho]; exact mk1 h 0 _))
  rw [ho]
  subst e
  exact W_heightOfM h.1 (h.th 0).2.2.1 hj _ (fun s' hS _ => ⟨by rw [hS.1 5 (by simp)]; rfl, fun _ => rfl, (h.th 0).scr hS⟩)
theorem M_heightAnew {A : zNt} {P : zPa} {s : zS} (h : SM A P s) (x : Int32) : W_X5_heightAnew s x (fun r => mkM (oSt A P (aHgt A) x) r) := by
  unfold oSt
  refine M_st h x (aHgt A) _ (fun j hj e ho => br_f (by decide) ?_) (fun ho => br_t rfl (by rw [ho]; exact mk1 h 0 _))
  rw [ho]
  subst e
  exact W_heightOfM h.1 (h.th 0).2.2.1 hj _ (fun s' hS _ => ⟨by rw [hS.1 5 (by simp)]; rfl, fun _ => rfl, (h.th 0).scr hS⟩)
theorem M_trees {A : zNt} {P : zPa} {s : zS} (h : SM A P s) (x : Int32) : W_X5_trees s x (fun r => mkM (oSt A P (fun t => pT A t 14) x) r) := by
  unfold oSt
  refine M_st h x (aHgt A) _ (fun j hj e ho => nt_t (by decide) ?_) (fun ho => nt_f rfl (by rw [ho]; exact mk1 h 0 _))
  rw [ho]
  subst e
  exact W_finds h.1 (h.th 0).2.2.1 hj _ (fun s' hS hF => ⟨by rw [hS.1 5 (by simp)]; rfl, fun _ => hF.2.1, (h.th 0).scr hS⟩)
theorem zcn_less {p : Nat → Bool} {d : Nat} (hd : p d = true) : ∀ n, d < n → zcn p n = zcn (fun s => p s && s != d) n + 1
  | 0, h => by omega
  | n + 1, h => by
    simp only [zcn]
    by_cases e : d = n
    · subst e
      have : ∀ k, k ≤ d → zcn p k = zcn (fun s => p s && s != d) k := fun k => by
        induction k with
        | zero => intro _; rfl
        | succ k ih =>
          intro hk
          simp only [zcn]
          have e1 : (k != d) = true := by simp; omega
          rw [ih (by omega)]
          exact zite (by rw [e1, Bool.and_true])
      rw [this d (Nat.le_refl _), if_pos hd, if_neg (by simp)]
    · have ih := zcn_less hd n (by omega)
      have e1 : (n != d) = true := by simp; omega
      rw [ih]
      have e2 : (p n && n != d) = p n := by rw [e1, Bool.and_true]
      by_cases c : p n = true
      · rw [if_pos c, if_pos (by rw [e2]; exact c)]
      · rw [if_neg c, if_neg (by rw [e2]; exact c)]
theorem M_free {A : zNt} {P : zPa} {s : zS} (h : SM A P s) (x : Int32) : W_X5_free s x (fun r => mkM (oSt A P (aFre A) x) r) := by
  unfold oSt
  refine M_st h x (aFre A) _ (fun t ht e ho => nt_t (by decide) ?_) (fun ho => nt_f rfl (by rw [ho]; exact mk1 h 0 _))
  rw [ho]
  subst e
  have hA := h.1
  have hn := hA.1
  refine W_finds hA (h.th 0).2.2.1 ht _ (fun s' hS hF => nm_e (nm_e (nm_e ?_)))
  obtain ⟨hP, hJ, hL⟩ := hF
  have hcnt := zcn_less (p := fun u => cI A u t) (d := dat A t) (dat_in A t) (nnn A) (dat_lt ht)
  have hcu : zcn (fun s => cI A s t && s != dat A t) (nnn A) = cu A t := rfl
  rw [hcu] at hcnt
  obtain ⟨m, hm⟩ := pk_loop (fun m i (_ : Unit) => W_X5_free_L35 (nI t) (fun r => mkM (0, lI (aFre A t), A, P) r) (fun v u s2 => v = lI (sN (pR0 A t) (nnn A)) ∧ u = lI ((cu A t : Int) + 1) ∧ s2 = s') m (lI (sN (pR0 A t) i)) (lI (zcn (fun u => cI A u t) i : Nat)) (nI i) s') (fun _ _ => True) (nnn A) 0 () (Nat.zero_le _) trivial
    (fun m _ _ => br_t (c_le hP.1.1 (Nat.le_refl _) (by omega)) ⟨rfl, by rw [hcnt]; rfl, rfl⟩)
    (fun m i _ hi _ hgo => by
      have vi : vp_in (nI i) 6 := vp_in_nI (by omega) (by omega)
      refine br_f (c_nle hP.1.1 hi (by omega)) ⟨vi, nm_r (e' := lI (sN (pR0 A t) (i + 1))) (by rw [ix_nI (by omega), hL i (by omega), lI_add]; rfl) ⟨vi, ?_⟩⟩
      rw [ix_nI (by omega), hP.2.2 i (by omega)]
      have hg := hgo () trivial
      simp only [zcn] at hg
      refine br_c (fun c => nm_r (e' := lI (zcn (fun u => cI A u t) i : Nat)) ?_ (nm_r (nI_1 i) ?_)) (fun c => nm_r (e' := lI ((zcn (fun u => cI A u t) i + 1 : Nat))) ?_ (nm_r (nI_1 i) ?_))
      · rw [lI_0, lI_add, Int.add_zero]
      · rw [if_neg (by rw [bI_0.mp c]; decide)] at hg
        exact hg
      · rw [lI_1, lI_add]
        rfl
      · rw [if_pos (bI_n0.mp c)] at hg
        exact hg)
  refine ⟨_, m, fun v u s2 hv => ?_, hm⟩
  obtain ⟨rfl, rfl, rfl⟩ := hv
  refine ⟨vp_in_nI (by omega) (by omega), ?_⟩
  have hT := pT_lim hA (w := 14) ht
  have hp := pT_pos hA ht
  have hu := cu_le hA ht
  have hr := pR0_le hA ht t
  have hs := sN_abs (f := pR0 A t) (B := 49995 * pT A t 14) (by omega) (nnn A) (fun j _ => pR0_le hA ht j)
  have h1 : (nnn A : Int) * (49995 * pT A t 14) ≤ 6 * (49995 * pT A t 14) := Int.mul_le_mul_of_nonneg_right (by omega) (by omega)
  have h2 := zmul_le (a := (cu A t : Int) + 1) (b := pR0 A t t) (A := 6) (B := 49995 * pT A t 14) (by omega) hr
  have h3 := zmul_le (a := (cu A t : Int) + 1) (b := pT A t 14) (A := 6) (B := 6256250) (by omega) (by omega)
  have h4 := Int.mul_pos (show 0 < (cu A t : Int) + 1 by omega) hp
  rw [ix_nI (by omega), hL t (by omega), hJ, lI_mul, lI_sub, lI_100, lI_mul, lI_mul]
  exact W_floor ⟨by omega, by omega⟩ h4 ⟨by omega, by omega⟩ _ ⟨by rw [hS.1 5 (by simp)]; rfl, fun _ => rfl, (h.th 0).scr hS⟩
/-- what questions on observations share -/
theorem M_ob {A : zNt} {P : zPa} {s : zS} (h : SM A P s) (x : Int32) (G : Int32 → zS → Prop) (h1 : ∀ j, j < nko A → x = nI j → zopt x (nko A) = some j → nwd A j = false → G 1 (sI s 5 0)) (h2 : ∀ j, zopt x (nko A) = some j → nwd A j = true → G 0 (sI s 5 2)) (h0 : zopt x (nko A) = none → G 0 (sI s 5 1)) : W_X5_isInNet s x G := by
  have hk := h.1.2.1
  refine W_isOb h x _ (fun j hj e ho => nm_e ?_) (fun ho => nm_e ?_)
  · subst e
    cases hw : nwd A j
    · refine ⟨fun v => v = 0, fun v hv => ?_, nt_t (by decide) ⟨vp_in_nI (by omega) (by omega), ?_⟩⟩
      · subst hv
        exact W_go0 _ ⟨rfl, h1 j hj rfl ho hw⟩
      · rw [ix_nI (by omega), h.2.2.1.2.2.2.2 j (by omega), hw]
        exact br_t rfl rfl
    · refine ⟨fun v => v = nI 2, fun v hv => ?_, nt_t (by decide) ⟨vp_in_nI (by omega) (by omega), ?_⟩⟩
      · subst hv
        exact W_go1 (by omega) (by omega) _ ⟨rfl, h2 j ho hw⟩
      · rw [ix_nI (by omega), h.2.2.1.2.2.2.2 j (by omega), hw]
        exact br_f (by decide) rfl
  · refine ⟨fun v => v = nI 1, fun v hv => ?_, nt_f rfl rfl⟩
    subst hv
    exact W_go1 (by omega) (by omega) _ ⟨rfl, h0 ho⟩
theorem M_residual {A : zNt} {P : zPa} {s : zS} (h : SM A P s) (x : Int32) : W_X5_residual s x (fun r => mkM (oOb A P (aRes A) x) r) := by
  unfold oOb
  refine M_ob h x _ (fun j hj e ho hw => nt_t (by decide) ?_) (fun j ho hw => nt_f rfl ?_) (fun ho => nt_f rfl (by rw [ho]; exact mk1 h 0 _))
  · rw [ho]
    subst e
    dsimp only
    rw [if_neg (by rw [hw]; decide)]
    have hA := h.1
    have f1 := (hA.2.2.1 j hj).1
    have hT := pT_lim hA (w := 14) f1
    have hm := aMis_le hA hj
    refine W_apart hA (h.th 0).2.2.1 hj _ (fun s' hS hF => nm_e ?_)
    rw [hF.2.1, lI_100, lI_mul]
    exact W_floor ⟨by omega, by omega⟩ (pT_pos hA f1) ⟨by omega, by omega⟩ _ ⟨by rw [hS.1 5 (by simp)]; rfl, fun _ => rfl, (h.th 0).scr hS⟩
  · rw [ho]
    dsimp only
    rw [if_pos hw]
    exact mk1 h 1 _
theorem M_check {A : zNt} {P : zPa} {s : zS} (h : SM A P s) (x : Int32) : W_X5_check s x (fun r => mkM (oOb A P (aChk A) x) r.toInt64) := by
  unfold oOb
  refine M_ob h x _ (fun j hj e ho hw => br_f (by decide) ?_) (fun j ho hw => br_t rfl ?_) (fun ho => br_t rfl (by rw [ho]; exact mk1 h 0 _))
  · rw [ho]
    subst e
    dsimp only
    rw [if_neg (by rw [hw]; decide)]
    have hc := aChk_le h.1 hj
    exact W_checkOfM h.1 (h.th 0).2.2.1 hj hw _ (fun s' hS _ => ⟨by rw [hS.1 5 (by simp)]; rfl, fun _ => iI_l ⟨by omega, by omega⟩, (h.th 0).scr hS⟩)
  · rw [ho]
    dsimp only
    rw [if_pos hw]
    exact mk1 h 1 _
theorem M_checkAnew {A : zNt} {P : zPa} {s : zS} (h : SM A P s) (x : Int32) : W_X5_checkAnew s x (fun r => mkM (oOb A P (aChk A) x) r.toInt64) := by
  unfold oOb
  refine M_ob h x _ (fun j hj e ho hw => br_f (by decide) ?_) (fun j ho hw => br_t rfl ?_) (fun ho => br_t rfl (by rw [ho]; exact mk1 h 0 _))
  · rw [ho]
    subst e
    dsimp only
    rw [if_neg (by rw [hw]; decide)]
    have hc := aChk_le h.1 hj
    exact W_checkOfM h.1 (h.th 0).2.2.1 hj hw _ (fun s' hS _ => ⟨by rw [hS.1 5 (by simp)]; rfl, fun _ => iI_l ⟨by omega, by omega⟩, (h.th 0).scr hS⟩)
  · rw [ho]
    dsimp only
    rw [if_pos hw]
    exact mk1 h 1 _
theorem M_score {A : zNt} {P : zPa} {s : zS} (h : SM A P s) (x : Int32) : W_X5_score s x (fun r => mkM (oOb A P (aScr A) x) r) := by
  unfold oOb
  refine M_ob h x _ (fun j hj e ho hw => br_f (by decide) ?_) (fun j ho hw => br_t rfl ?_) (fun ho => br_t rfl (by rw [ho]; exact mk1 h 0 _))
  · rw [ho]
    subst e
    dsimp only
    rw [if_neg (by rw [hw]; decide)]
    exact W_scoreOfM h.1 (h.th 0).2.2.1 hj hw _ (fun s' hS _ => ⟨by rw [hS.1 5 (by simp)]; rfl, fun _ => rfl, (h.th 0).scr hS⟩)
  · rw [ho]
    dsimp only
    rw [if_pos hw]
    exact mk1 h 1 _
theorem M_worst {A : zNt} {P : zPa} {s : zS} (h : SM A P s) : W_X5_worst s (fun r s' => r = iI (aWst A (nko A)).1 ∧ SM A P s') :=
  nm_e (W_worstOf h.1 (h.th 0).2.2.1 _ (fun s' hS _ => ⟨rfl, (h.th 0).scr hS⟩))
theorem M_end {A : zNt} {P : zPa} {s : zS} (h : SM A P s) : W_X5_end s (fun r s' => r = nI P.1 ∧ SM A (0, 0, 0, 0) s') := by
  refine nm_e (nm_e (nm_e (nm_e ⟨h.2.2.2.1, h.1, ⟨Nat.zero_le _, fun q => absurd q (by decide), fun _ => rfl⟩, ?_, rfl, fun q => absurd q (by decide), rfl⟩)))
  have hS : zSm [2, 3, 5] [] [] [] s (sI (sI (sI s 5 0) 2 0) 3 0) := (((zSm.rf s).tI (by simp) _).tI (by simp) _).tI (by simp) _
  exact h.2.2.1.sm hS ⟨by simp, by simp⟩ ⟨by simp, by simp, by simp, by simp, by simp, by simp, by simp⟩
theorem M_sum {A : zNt} {P : zPa} {s : zS} (h : SM A P s) : W_X5_sum s (fun r s' => r = P.2.2.2 ∧ SM A P s') := nm_e ⟨h.2.2.2.2.2, h.th 0⟩
theorem M_closed {A : zNt} {P : zPa} {s : zS} (h : SM A P s) : W_X5_isClosed s (fun r s' => r = bI (aClosed P) ∧ SM A P s') := by
  have hn := h.1.1
  have hp := h.2.1.1
  refine nm_e ?_
  unfold aClosed
  obtain ⟨q8, q9, q11⟩ := (h.th 0).2.2.2
  rw [q8, q11]
  refine br_c (fun c => ⟨?_, h.th 0⟩) (fun c => ?_)
  · have c0 : P.1 ≤ 0 := (nI_leI (b := 0) (by omega) (by omega)).mp c
    rw [decide_eq_false (fun q => by omega)]
    rfl
  · have c0 : ¬ P.1 ≤ 0 := fun q => c (nI_le (b := 0) q (by omega))
    obtain ⟨g9, g10⟩ := q9 (by omega)
    obtain ⟨b1, b2⟩ := h.2.1.2.1 (by omega)
    have e1 : nI P.1 - 1 = nI (P.1 - 1) := by
      rw [show P.1 = P.1 - 1 + 1 by omega, nI_pred]
      rfl
    rw [e1, ix_nI (by omega), show ix 0 = 0 from rfl, g9, g10]
    refine ⟨vp_in_nI (by omega) (by omega), vp_in_nI (n := 0) (by omega) (by omega), nt_c (fun d => ⟨?_, h.th 0⟩) (fun d => nt_c (fun d2 => ⟨?_, h.th 0⟩) (fun d2 => ⟨?_, h.th 0⟩))⟩
    · rw [decide_eq_false (fun q => d (by rw [q.2.1]))]
      rfl
    · rw [decide_eq_false (fun q => d2 q.2.2)]
      rfl
    · rw [decide_eq_true ⟨by omega, ((nI_eq (by omega) (by omega)).mp d).symm, d2⟩]
      rfl
theorem M_parts {A : zNt} {P : zPa} {s : zS} (h : SM A P s) : W_X5_parts s (fun r s' => r = nI (nprt A) ∧ SM A P s') := by
  have hA := h.1
  have hn := hA.1
  refine nm_e (nm_e (nm_e ?_))
  obtain ⟨I, eI⟩ : ∃ I : Nat → zS → Prop, I = fun _ s' => SM A P s' := ⟨_, rfl⟩
  obtain ⟨m, hm⟩ := pk_loop (fun m i s' => W_X5_parts_L9 (fun r s' => r = nI (nprt A) ∧ SM A P s') (fun v s' => v = nI (nprt A) ∧ I (nnn A) s') m (nI (zcn (fun t => lw A t == t) i)) (nI i) s') I (nnn A) 0 (sI s 5 0) (Nat.zero_le _)
    (by rw [eI]; exact h.th 0)
    (fun m s' hI => br_t (by
      rw [eI] at hI
      exact c_le hI.2.2.1.1 (Nat.le_refl _) (by omega)) ⟨rfl, hI⟩)
    (fun m i s' hi hI hgo => by
      rw [eI] at hI
      refine br_f (c_nle hI.2.2.1.1 hi (by omega)) (W_reaches hA hI.2.2.1 hi _ (fun s2 hS2 hP2 => nm_e (nm_e ?_)))
      have hM2 : SM A P s2 := hI.scr (hS2.mono (by simp) (by simp) (by simp) (by simp))
      obtain ⟨lo, hlo⟩ : ∃ lo : Nat → Bool, lo = fun k => decide (∀ j, j < k → cI A j i = false) := ⟨_, rfl⟩
      obtain ⟨m2, hm2⟩ := pk_loop (fun m k (_ : Unit) => W_X5_parts_L27 (nI (zcn (fun t => lw A t == t) i)) (nI i) (fun r s' => r = nI (nprt A) ∧ SM A P s') (fun v s3 => v = bI (lo i) ∧ s3 = s2) m (bI (lo k)) (nI k) s2) (fun _ _ => True) i 0 () (Nat.zero_le _) trivial
        (fun m _ _ => br_t (nI_le (Nat.le_refl _) (by omega)) ⟨rfl, rfl⟩)
        (fun m k _ hk _ hgo2 => by
          have hg := hgo2 () trivial
          refine br_f (nI_ge hk (by omega)) (br_c (fun c => ?_) (fun c => ⟨vp_in_nI (by omega) (by omega), ?_⟩))
          · have : lo (k + 1) = false := by
              have h1 := bI_0.mp c
              rw [hlo] at h1 ⊢
              exact decide_eq_false (fun q => absurd (fun j hj => q j (by omega)) (of_decide_eq_false h1))
            rw [this] at hg
            exact nm_e (nm_r (nI_1 k) hg)
          · have h1 := bI_n0.mp c
            rw [hlo] at h1
            have h2 := of_decide_eq_true h1
            rw [ix_nI (by omega), hP2.2.2 k (by omega)]
            refine nt_c (fun d => nm_e (nm_r (nI_1 k) ?_)) (fun d => nm_e (nm_r (nI_1 k) ?_))
            · have : lo (k + 1) = false := by
                rw [hlo]
                exact decide_eq_false (fun q => by
                  have := q k (by omega)
                  rw [bI_n0.mp d] at this
                  cases this)
              rw [this] at hg
              exact hg
            · have : lo (k + 1) = true := by
                rw [hlo]
                refine decide_eq_true (fun j hj => ?_)
                by_cases e : j = k
                · rw [e]; exact bI_0.mp d
                · exact h2 j (by omega)
              rw [this] at hg
              exact hg)
      have hstart : bI (lo 0) = 1 := by
        rw [hlo]
        have : (decide (∀ (j : Nat), j < 0 → cI A j i = false)) = true := decide_eq_true (fun j hj => by omega)
        dsimp only
        rw [this]
        rfl
      rw [hstart] at hm2
      refine ⟨_, m2, fun v s3 hv => ?_, hm2⟩
      obtain ⟨rfl, rfl⟩ := hv
      have hg := hgo s3 (by rw [eI]; exact hM2)
      simp only [zcn] at hg
      have hiff : lo i = true ↔ lw A i = i := by
        rw [hlo]
        obtain ⟨l1, l2, l3⟩ := lw_spec A i
        refine decide_eq_true_iff.trans ⟨fun q => ?_, fun q j hj => l3 j (by omega)⟩
        by_cases c : lw A i < i
        · rw [q _ c] at l2
          cases l2
        · omega
      refine br_c (fun c => nm_r (e' := nI (zcn (fun t => lw A t == t) i)) ?_ (nm_r (nI_1 i) ?_)) (fun c => nm_r (nI_1 _) (nm_r (nI_1 i) ?_))
      · rw [show (0 : Int32) = nI 0 from rfl, nI_add, Nat.add_zero]
      · rw [if_neg (fun q => by rw [hiff.mpr (beq_iff_eq.mp q)] at c; exact absurd c (by decide))] at hg
        exact hg
      · rw [if_pos (beq_iff_eq.mpr (hiff.mp (bI_n0.mp c)))] at hg
        exact hg)
  refine ⟨_, m, fun v s' hv => ?_, hm⟩
  obtain ⟨rfl, hI⟩ := hv
  rw [eI] at hI
  exact ⟨rfl, hI⟩
/-- how many are in the net -/
def nin (A : zNt) : Nat := zcn (fun o => !nwd A o) (nko A)
theorem nin_wd {A : zNt} {o : Nat} (ho : o < nko A) (hw : nwd A o = false) : nin (setWd A o true) < nin A := by
  have h := (zcn_up (B := fun q => !zup (nwd A) o true q) (B' := fun q => !nwd A q) (fun q hq => by
    by_cases e : q = o
    · rw [e, zup_s] at hq
      cases hq
    · rw [zup_n _ _ e] at hq
      exact hq) (nko A)).2 ⟨o, ho, by rw [zup_s]; rfl, by rw [hw]; rfl⟩
  exact h
theorem M_clean {A : zNt} {P : zPa} {s : zS} (h : SM A P s) (b : Int32) : W_X5_clean s b (fun r => mkM (oClean A P b) r.toInt64) := by
  unfold oClean
  refine W_isBet s b 0 1000000000 _ (fun q => ?_) (fun q => ?_)
  · have q' : 0 ≤ b.toInt ∧ b.toInt ≤ 1000000000 := q
    rw [if_pos q']
    refine ⟨fun v => v = 0, fun v hv => ?_, br_f (by decide) rfl⟩
    subst hv
    refine W_go0 _ (nt_t (by decide) (nm_e ?_))
    obtain ⟨R, hRd⟩ : ∃ R, R = aCl b.toInt 14 A := ⟨_, rfl⟩
    rw [← hRd]
    refine W_worstOf h.1 (h.th 0).2.2.1 _ (fun s1 hS1 _ => nm_e ?_)
    have h1 : SM A P s1 := (h.th 0).scr hS1
    have t1 : gI s1 5 = nI 0 := by rw [hS1.1 5 (by simp)]; rfl
    obtain ⟨Q, hQ⟩ : ∃ Q : Int32 → zS → Prop, Q = fun r => mkM (0, lI R.1, R.2, P) r.toInt64 := ⟨_, rfl⟩
    show ∃ (K16 : Int32 → zS → Prop) (n17 : Nat), (∀ (v21 : Int32) (s22 : zS), K16 v21 s22 → mkM (0, lI R.1, R.2, P) v21.toInt64 s22) ∧ W_X5_clean_L31 b (fun r => mkM (0, lI R.1, R.2, P) r.toInt64) K16 n17 0 (iI (aWst A (nko A)).1) s1
    rw [← hQ]
    have key : ∀ (f : Nat) (B : zNt) (i : Nat) (s2 : zS), nin B ≤ f → f ≤ 14 → i + f ≤ 14 → SM B P s2 → gI s2 5 = nI 0 → R.1 = i + (aCl b.toInt f B).1 → R.2 = (aCl b.toInt f B).2 → W_X5_clean_L31 b Q Q (f + 1) (nI i) (iI (aWst B (nko B)).1) s2 := by
      intro f
      induction f with
      | zero =>
        intro B i s2 hn0 hf hi hB ht r1 r2
        simp only [aCl] at r1 r2
        rcases aWst_or (A := B) (nko B) with ⟨c3, -⟩ | ⟨o, ho, e1, e2, e3, e4⟩
        · refine br_t (by rw [c3]; rfl) ?_
          rw [hQ]
          refine ⟨ht, fun _ => ?_, ?_⟩
          · rw [r1]
            exact nI_l64 (by omega)
          · rw [r2]
            exact hB
        · have := nin_wd ho e2
          omega
      | succ f ih =>
        intro B i s2 hn0 hf hi hB ht r1 r2
        simp only [aCl] at r1 r2
        have hk := hB.1.2.1
        have hwl := aWst_le hB.1 (nko B) (Nat.le_refl _)
        have hiff : iI (aWst B (nko B)).1 = -1 ↔ (aWst B (nko B)).1 = -1 := iI_eq (b := -1) ⟨by omega, by omega⟩ ⟨by omega, by omega⟩
        have hend : R.1 = i → R.2 = B → ∀ s3, SM B P s3 → gI s3 5 = nI 0 → Q (nI i) s3 := fun q1 q2 s3 hB3 ht3 => by
          rw [hQ]
          refine ⟨ht3, fun _ => ?_, ?_⟩
          · rw [q1]
            exact nI_l64 (by omega)
          · rw [q2]
            exact hB3
        refine br_c (fun c => ?_) (fun c => ?_)
        · rw [if_pos (Or.inl (hiff.mp c))] at r1 r2
          exact hend r1 r2 s2 hB ht
        · have c2 : (aWst B (nko B)).1 ≠ -1 := fun q => c (hiff.mpr q)
          rcases aWst_or (A := B) (nko B) with ⟨c3, -⟩ | ⟨o, ho, e1, e2, e3, e4⟩
          · exact absurd c3 c2
          · rw [e1] at r1 r2 ⊢
            rw [Int.toNat_natCast] at r1 r2
            rw [← nI_iI]
            have hsl := aScr_le hB.1 ho
            refine W_scoreOfM hB.1 hB.2.2.1 ho e2 _ (fun s3 hS3 _ => ?_)
            have hB3 := hB.scr hS3
            have ht3 : gI s3 5 = nI 0 := (hS3.1 5 (by simp)).trans ht
            have hle : lI (aScr B o) ≤ b.toInt64 ↔ aScr B o ≤ b.toInt := by
              have hb := iI_B b
              rw [show b.toInt64 = lI b.toInt by conv => lhs; rw [iI_of b]
                                                 exact iI_l hb]
              exact lI_le ⟨by omega, by omega⟩ ⟨by omega, by omega⟩
            refine br_c (fun c4 => ?_) (fun c4 => ⟨vp_in_nI (by omega) (by omega), nm_e (nm_r (nI_1 i) ?_)⟩)
            · rw [if_pos (Or.inr (hle.mp c4))] at r1 r2
              exact hend r1 r2 s3 hB3 ht3
            · have c5 : ¬ aScr B o ≤ b.toInt := fun q => c4 (hle.mpr q)
              rw [if_neg (by omega)] at r1 r2
              rw [ix_nI (by omega), vn_1]
              have hB4 := SM_wd hB3 ho true
              have hnn := nin_wd ho e2
              refine W_worstOf hB4.1 hB4.2.2.1 _ (fun s5 hS5 _ => nm_e ?_)
              refine ih (setWd B o true) (i + 1) s5 (by omega) (by omega) (by omega) (hB4.scr hS5) ?_ ?_ r2
              · rw [hS5.1 5 (by simp)]
                exact ht3
              · rw [r1]
                dsimp only
                omega
    exact ⟨Q, 15, fun v s2 hv => by rw [hQ] at hv; exact hv, key 14 A 0 s1 (Nat.le_trans (zcn_le _ _) h.1.2.1) (Nat.le_refl _) (by omega) h1 t1 (by rw [hRd]; simp) (by rw [hRd])⟩
  · have q' : ¬ (0 ≤ b.toInt ∧ b.toInt ≤ 1000000000) := q
    rw [if_neg q']
    refine ⟨fun v => v = nI 1, fun v hv => ?_, br_t rfl rfl⟩
    subst hv
    exact W_go1 (by omega) (by omega) _ (nt_f rfl (mk1 h 0 _))
end ZMOPS2

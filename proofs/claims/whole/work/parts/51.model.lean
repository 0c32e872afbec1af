/-! THE MODEL: what its methods answer and do (1: ranges, parts) -/
section ZMODEL
def RM (A : zNt) (s : zS) : Prop := gI s 0 = nI (nnn A) ∧ gI s 1 = nI (nko A) ∧ (∀ t, t < 6 → gF s 0 t = bI (ntl A t) ∧ gF s 1 t = iI (nth A t)) ∧
  (∀ o, o < nko A → gF s 2 o = nI (nfr A o) ∧ gF s 3 o = nI (nto A o) ∧ gF s 4 o = iI (ndf A o) ∧ gF s 5 o = iI (nwt A o)) ∧ (∀ o, o < 14 → gF s 6 o = bI (nwd A o))
theorem RM.sm {A : zNt} {li lj lf ll : List Nat} {s s' : zS} (h : RM A s) (m : zSm li lj lf ll s s') (h1 : 0 ∉ li ∧ 1 ∉ li) (h2 : 0 ∉ lf ∧ 1 ∉ lf ∧ 2 ∉ lf ∧ 3 ∉ lf ∧ 4 ∉ lf ∧ 5 ∉ lf ∧ 6 ∉ lf) : RM A s' := by
  obtain ⟨a0, a1, a2, a3, a4⟩ := h
  obtain ⟨m1, m2, m3, m4⟩ := m
  refine ⟨by rw [m1 0 h1.1]; exact a0, by rw [m1 1 h1.2]; exact a1, ?_, ?_, ?_⟩
  · rw [m3 0 h2.1, m3 1 h2.2.1]; exact a2
  · rw [m3 2 h2.2.2.1, m3 3 h2.2.2.2.1, m3 4 h2.2.2.2.2.1, m3 5 h2.2.2.2.2.2.1]; exact a3
  · rw [m3 6 h2.2.2.2.2.2.2]; exact a4
theorem W_goes {s : zS} {x : Int32} (Q : Int32 → zS → Prop) (h0 : x = 0 → Q 1 (sI s 5 x)) (h1 : ¬ x = 0 → Q 0 (sI s 5 x)) : W_X5_goes s x Q := nm_e (nt_c h1 h0)
theorem W_isStationM {A : zNt} (hA : zok A) {s : zS} (hR : RM A s) (x : Int32) (Q : Int32 → Prop) (h1 : ∀ j, j < nnn A → x = nI j → Q 1) (h0 : (∀ j, j < nnn A → x ≠ nI j) → Q 0) : W_X5_isStation s x Q := by
  have hn := hA.1
  unfold W_X5_isStation
  rw [hR.1, nI_iI, iI_1, iI_sub]
  refine br_c (fun c => ⟨bI_nar false, h0 (fun j hj e => ?_)⟩) (fun c => br_c (fun c2 => ⟨bI_nar false, h0 (fun j hj e => ?_)⟩) (fun c2 => ⟨bI_nar true, ?_⟩))
  · rw [e] at c
    exact nI_pos (by omega) c
  · rw [e, nI_iI] at c2
    have := (iI_lt ⟨by omega, by omega⟩ ⟨by omega, by omega⟩).mp c2
    omega
  · obtain ⟨j, hj, e⟩ := nI_of c
    rw [e, nI_iI] at c2
    have : ¬ (nnn A : Int) - 1 < j := fun q => c2 ((iI_lt ⟨by omega, by omega⟩ ⟨by omega, by omega⟩).mpr q)
    exact h1 j (by omega) e
theorem W_isObservationM {A : zNt} (hA : zok A) {s : zS} (hR : RM A s) (x : Int32) (Q : Int32 → Prop) (h1 : ∀ j, j < nko A → x = nI j → Q 1) (h0 : (∀ j, j < nko A → x ≠ nI j) → Q 0) : W_X5_isObservation s x Q := by
  have hn := hA.2.1
  unfold W_X5_isObservation
  rw [hR.2.1, nI_iI, iI_1, iI_sub]
  refine br_c (fun c => ⟨bI_nar false, h0 (fun j hj e => ?_)⟩) (fun c => br_c (fun c2 => ⟨bI_nar false, h0 (fun j hj e => ?_)⟩) (fun c2 => ⟨bI_nar true, ?_⟩))
  · rw [e] at c
    exact nI_pos (by omega) c
  · rw [e, nI_iI] at c2
    have := (iI_lt ⟨by omega, by omega⟩ ⟨by omega, by omega⟩).mp c2
    omega
  · obtain ⟨j, hj, e⟩ := nI_of c
    rw [e, nI_iI] at c2
    have : ¬ (nko A : Int) - 1 < j := fun q => c2 ((iI_lt ⟨by omega, by omega⟩ ⟨by omega, by omega⟩).mpr q)
    exact h1 j (by omega) e
/-- nothing more is reached -/
def zcl (A : zNt) (B : Nat → Bool) (k : Nat) : Prop := ∀ o, o < k → nwd A o = false → B (nfr A o) = B (nto A o)
theorem zcn_up {B B' : Nat → Bool} (h : ∀ q, B q = true → B' q = true) : ∀ n, zcn B n ≤ zcn B' n ∧ ((∃ q, q < n ∧ B q = false ∧ B' q = true) → zcn B n < zcn B' n)
  | 0 => ⟨Nat.le_refl _, fun ⟨q, h, _⟩ => by omega⟩
  | n + 1 => by
    obtain ⟨h1, h2⟩ := zcn_up h n
    simp only [zcn]
    cases c : B n
    · rw [if_neg (by decide)]
      refine ⟨by split <;> omega, fun ⟨q, q1, q2, q3⟩ => ?_⟩
      by_cases e : q = n
      · subst e
        rw [if_pos q3]
        omega
      · have := h2 ⟨q, by omega, q2, q3⟩
        split <;> omega
    · rw [if_pos rfl, if_pos (h n c)]
      refine ⟨by omega, fun ⟨q, q1, q2, q3⟩ => ?_⟩
      have : q ≠ n := fun e => by rw [e, c] at q2; cases q2
      have := h2 ⟨q, by omega, q2, q3⟩
      omega
/-- the datum, found from above: of the stations i .. -/
def zdt (A : zNt) (t i : Nat) (v : Int32) : Prop :=
  (∃ q, i ≤ q ∧ q < nnn A ∧ ntl A q = true ∧ cI A q t = true ∧ (∀ j, i ≤ j → j < q → (ntl A j && cI A j t) = false) ∧ v = nI q) ∨
  ((∀ j, i ≤ j → j < nnn A → (ntl A j && cI A j t) = false) ∧ ((∃ q, i ≤ q ∧ q < nnn A ∧ cI A q t = true ∧ (∀ j, i ≤ j → j < q → cI A j t = false) ∧ v = nI q) ∨ ((∀ j, i ≤ j → j < nnn A → cI A j t = false) ∧ v = -1)))
theorem zdt_0 {A : zNt} {t : Nat} (ht : t < nnn A) {v : Int32} (h : zdt A t 0 v) : v = nI (dat A t) := by
  rcases h with ⟨q, h1, h2, h3, h4, h5, h6⟩ | ⟨h, h2⟩
  · have : dat A t = q := by
      unfold dat
      rw [zfst_at (p := fun s => ntl A s && cI A s t) (i := q) (by simp [h3, h4]) (fun j hj => h5 j (Nat.zero_le _) hj) (nnn A) h2, if_pos h2]
    rw [h6, this]
  · have e : dat A t = lw A t := by
      unfold dat
      rw [zfst_no (p := fun s => ntl A s && cI A s t) (nnn A) (fun j hj => h j (Nat.zero_le _) hj), if_neg (by omega)]
    rcases h2 with ⟨q, h1, h2, h3, h4, h5⟩ | ⟨h1, -⟩
    · obtain ⟨l1, l2, l3⟩ := lw_spec A t
      have : lw A t = q := by
        rcases Nat.lt_trichotomy (lw A t) q with r | r | r
        · rw [h4 _ (Nat.zero_le _) r] at l2
          cases l2
        · exact r
        · rw [l3 _ r] at h3
          cases h3
      rw [h5, e, this]
    · have := h1 t (Nat.zero_le _) ht
      rw [cI_rfl] at this
      cases this
theorem nI_m1 (i : Nat) : nI i + (-1) = nI i - 1 := by rw [nI_iI, iI_m1, iI_1, iI_add, iI_sub]; rfl
/-- the part of t and its datum are known -/
def RP (A : zNt) (t : Nat) (s : zS) : Prop := RM A s ∧ gI s 4 = nI (dat A t) ∧ ∀ q, q < 6 → gF s 8 q = bI (cI A q t)
theorem W_reaches {A : zNt} (hA : zok A) {s : zS} (hR : RM A s) {t : Nat} (ht : t < nnn A) (Q : zS → Prop) (hQ : ∀ s', zSm [4] [] [8] [] s s' → RP A t s' → Q s') : W_X5_reaches s (nI t) Q := by
  have hn := hA.1
  have hk14 := hA.2.1
  have hkeep : ∀ s', zSm [4] [] [8] [] s s' → RM A s' := fun s' h => hR.sm h ⟨by simp, by simp⟩ ⟨by simp, by simp, by simp, by simp, by simp, by simp, by simp⟩
  refine nm_e ?_
  obtain ⟨I, eI⟩ : ∃ I : Nat → zS → Prop, I = fun i s' => zSm [4] [] [8] [] s s' ∧ ∀ q, q < i → gF s' 8 q = bI (q == t) := ⟨_, rfl⟩
  obtain ⟨m, hm⟩ := pk_loop (fun m i s' => W_X5_reaches_L2 (nI t) Q (I 6) m (nI i) s') I 6 0 s (Nat.zero_le _)
    (by rw [eI]; exact ⟨zSm.rf s, fun q hq => by omega⟩)
    (fun m s' hI => br_t (nI_le (Nat.le_refl 6) (by omega)) hI)
    (fun m i s' hi hI hgo => by
      rw [eI] at hI
      have hnew : ∀ u : Int32, u = bI (i == t) → I (i + 1) (sF s' 8 i u) := fun u hu => by
        rw [eI]
        refine ⟨hI.1.tF (by simp) _ _, fun q hq => ?_⟩
        rw [gF_sFs]
        by_cases e : q = i
        · rw [if_pos e, e, hu]
        · rw [if_neg e]
          exact hI.2 q (by omega)
      refine br_f (nI_ge (b := 6) hi (by omega)) (nt_c (fun c => ⟨vp_in_nI (by omega) (by omega), nm_e ?_⟩) (fun c => ⟨vp_in_nI (by omega) (by omega), nm_e ?_⟩))
      · rw [ix_nI (by omega)]
        refine nm_r (nI_1 i) (hgo _ (hnew _ ?_))
        have : (i == t) = false := by simp; exact fun q => c (by rw [q])
        rw [this, vn_0]
      · rw [ix_nI (by omega)]
        refine nm_r (nI_1 i) (hgo _ (hnew _ ?_))
        have : (i == t) = true := by simp; exact (nI_eq (by omega) (by omega)).mp c
        rw [this, vn_1])
  refine ⟨_, m, fun s1 hI1 => nm_e ?_, hm⟩
  rw [eI] at hI1
  obtain ⟨hS1, hq1⟩ := hI1
  clear hm eI
  -- turns
  obtain ⟨J, eJ⟩ : ∃ J : Nat → zS → Prop, J = fun i s' => zSm [4] [] [8] [] s s' ∧ ∃ B : Nat → Bool, (∀ q, q < 6 → gF s' 8 q = bI (B q)) ∧ B t = true ∧ (∀ q, B q = true → cI A q t = true) ∧ (zcl A B (nko A) ∨ i + 1 ≤ zcn B 6) := ⟨_, rfl⟩
  obtain ⟨m2, hm2⟩ := pk_loop (fun m i s' => W_X5_reaches_L32 Q (J 6) m (nI i) s') J 6 0 s1 (Nat.zero_le _)
    (by
      rw [eJ]
      refine ⟨hS1, fun q => q == t, hq1, by simp, fun q hq => by rw [beq_iff_eq.mp hq]; exact cI_rfl A t, Or.inr ?_⟩
      have := zcn_lt (p := fun q => q == t) (i := t) (n := 6) (by omega) (by simp)
      omega)
    (fun m s' hI => br_t (nI_le (Nat.le_refl 6) (by omega)) hI)
    (fun m i s' hi hJ hgo => by
      rw [eJ] at hJ
      obtain ⟨hS, B, hB, hBt, hBc, hBn⟩ := hJ
      refine br_f (nI_ge (b := 6) hi (by omega)) (nm_e ?_)
      obtain ⟨K, eK⟩ : ∃ K : Nat → zS → Prop, K = fun o s2 => zSm [4] [] [8] [] s s2 ∧ ∃ C : Nat → Bool, (∀ q, q < 6 → gF s2 8 q = bI (C q)) ∧ C t = true ∧ (∀ q, C q = true → cI A q t = true) ∧ (zcl A B (nko A) → C = B) ∧ ((C = B ∧ zcl A B o) ∨ zcn B 6 < zcn C 6) := ⟨_, rfl⟩
      obtain ⟨m3, hm3⟩ := pk_loop (fun m o s2 => W_X5_reaches_L40 (nI i) Q (K (nko A)) m (nI o) s2) K (nko A) 0 s' (Nat.zero_le _)
        (by rw [eK]; exact ⟨hS, B, hB, hBt, hBc, fun _ => rfl, Or.inl ⟨rfl, fun o ho => by omega⟩⟩)
        (fun m s2 hK => br_t (by
          rw [eK] at hK
          exact c_le (hkeep _ hK.1).2.1 (Nat.le_refl _) (by omega)) hK)
        (fun m o s2 ho hK hgo2 => by
          rw [eK] at hK
          obtain ⟨hS2, C, hC, hCt, hCc, hCB, hCn⟩ := hK
          have hR2 := hkeep _ hS2
          obtain ⟨f1, f2, f3, -⟩ := hA.2.2.1 o ho
          obtain ⟨e3, e4, -⟩ := hR2.2.2.2.1 o ho
          have vo : vp_in (nI o) 14 := vp_in_nI (by omega) (by omega)
          have io : ix (nI o) = o := ix_nI (by omega)
          have vf : vp_in (nI (nfr A o)) 6 := vp_in_nI (by omega) (by omega)
          have vt : vp_in (nI (nto A o)) 6 := vp_in_nI (by omega) (by omega)
          refine br_f (c_nle hR2.2.1 ho (by omega)) ⟨vo, ?_⟩
          rw [io, hR2.2.2.2.2 o (by omega), e3, e4, ix_nI (by omega), ix_nI (by omega), hC _ (by omega), hC _ (by omega)]
          refine nt_c (fun c => nm_r (nI_1 o) (hgo2 s2 ?_)) (fun c => ⟨vo, vf, vo, vt, br_c (fun d => nm_r (nI_1 o) (hgo2 s2 ?_)) (fun d => ⟨vo, vf, nm_e ⟨vo, ?_⟩⟩)⟩)
          · rw [eK]
            refine ⟨hS2, C, hC, hCt, hCc, hCB, ?_⟩
            rcases hCn with ⟨q1, q2⟩ | q
            · refine Or.inl ⟨q1, fun j hj hw => ?_⟩
              by_cases e : j = o
              · rw [e, ] at hw
                exact absurd (bI_0.mpr hw) c
              · exact q2 j (by omega) hw
            · exact Or.inr q
          · rw [eK]
            refine ⟨hS2, C, hC, hCt, hCc, hCB, ?_⟩
            rcases hCn with ⟨q1, q2⟩ | q
            · refine Or.inl ⟨q1, fun j hj hw => ?_⟩
              by_cases e : j = o
              · rw [e, ← q1]
                exact bI_eq.mp d
              · exact q2 j (by omega) hw
            · exact Or.inr q
          · have d' : ¬ C (nfr A o) = C (nto A o) := fun q => d (by rw [q])
            have hw := bI_0.mp c
            rw [gF_sFn _ (by decide), e4, ix_nI (by omega)]
            refine ⟨vt, nm_e (nm_r (nI_1 o) (hgo2 _ ?_))⟩
            have hedge := cI_edge ho hw
            rw [eK]
            refine ⟨(hS2.tF (by simp) _ _).tF (by simp) _ _, fun q => C q || (q == nfr A o || q == nto A o), fun q hq => ?_, by simp [hCt], fun q hq => ?_, fun hz => ?_, Or.inr ?_⟩
            · rw [gF_sFs, gF_sFs]
              by_cases g1 : q = nto A o
              · rw [if_pos g1, vn_1]
                simp [g1]
              · rw [if_neg g1]
                by_cases g2 : q = nfr A o
                · rw [if_pos g2, vn_1]
                  simp [g2]
                · rw [if_neg g2, hC q hq]
                  have e1 : (q == nfr A o) = false := by simp [g2]
                  have e2 : (q == nto A o) = false := by simp [g1]
                  dsimp only
                  rw [e1, e2, Bool.or_false, Bool.or_false]
            · have hor : cI A (nfr A o) t = true ∨ cI A (nto A o) t = true := by
                cases g1 : C (nfr A o)
                · cases g2 : C (nto A o)
                  · exact absurd (by rw [g1, g2]) d'
                  · exact Or.inr (hCc _ g2)
                · exact Or.inl (hCc _ g1)
              have hboth : cI A (nfr A o) t = true ∧ cI A (nto A o) t = true := by
                rcases hor with g | g
                · refine ⟨g, ?_⟩
                  rw [cI_symm] at hedge
                  exact cI_trans hedge g
                · exact ⟨cI_trans hedge g, g⟩
              simp only [Bool.or_eq_true, beq_iff_eq] at hq
              rcases hq with g | g | g
              · exact hCc q g
              · rw [g]; exact hboth.1
              · rw [g]; exact hboth.2
            · have e := hCB hz
              rw [e] at d'
              exact absurd (hz o ho hw) d'
            · have hup : ∀ q, C q = true → (C q || (q == nfr A o || q == nto A o)) = true := fun q hq => by simp [hq]
              have h1 := (zcn_up hup 6).2 (by
                cases g1 : C (nfr A o)
                · exact ⟨nfr A o, by omega, g1, by simp⟩
                · cases g2 : C (nto A o)
                  · exact ⟨nto A o, by omega, g2, by simp⟩
                  · exact absurd (by rw [g1, g2]) d')
              rcases hCn with ⟨q1, -⟩ | q
              · rw [q1] at h1 ⊢
                exact h1
              · omega)
      refine ⟨_, m3, fun s2 hK => nm_r (nI_1 i) (hgo s2 ?_), hm3⟩
      rw [eK] at hK
      obtain ⟨hS2, C, hC, hCt, hCc, hCB, hCn⟩ := hK
      rw [eJ]
      refine ⟨hS2, C, hC, hCt, hCc, ?_⟩
      rcases hCn with ⟨q1, q2⟩ | q
      · rw [q1]
        exact Or.inl q2
      · rcases hBn with r | r
        · rw [hCB r]
          exact Or.inl r
        · exact Or.inr (by omega))
  refine ⟨_, m2, fun s2 hJ => nm_e ?_, hm2⟩
  rw [eJ] at hJ
  obtain ⟨hS2, B, hB, hBt, hBc, hBn⟩ := hJ
  have hcl : zcl A B (nko A) := by
    rcases hBn with r | r
    · exact r
    · have := zcn_le B 6
      omega
  have hBI : ∀ q, B q = cI A q t := fun q => by
    refine Bool.eq_iff_iff.mpr ⟨hBc q, fun h => ?_⟩
    have := cI_iff.mp h (fun u => B u = true) (fun o ho hw => by rw [hcl o ho hw])
    exact this.mpr hBt
  clear hm2 eJ
  have hS3 : zSm [4] [] [8] [] s (sI s2 4 (-1)) := hS2.tI (by simp) _
  refine nm_r (by rw [(hkeep _ hS3).1]) ?_
  obtain ⟨L, eL⟩ : ∃ L : Nat → zS → Prop, L = fun i s' => i ≤ nnn A ∧ zSm [4] [] [8] [] s s' ∧ (∀ q, q < 6 → gF s' 8 q = bI (cI A q t)) ∧ zdt A t i (gI s' 4) := ⟨_, rfl⟩
  have hm4 := pk_loopD (fun m i s' => W_X5_reaches_L130 Q (L 0) m (nI i - 1) s') L
    (fun m s' hL => br_t (by decide) hL)
    (fun m i s' hL hgo => by
      rw [eL] at hL
      obtain ⟨hi, hS4, hB4, hd4⟩ := hL
      have hR4 := hkeep _ hS4
      have vi : vp_in (nI i) 6 := vp_in_nI (by omega) (by omega)
      have hnew : ∀ v : Int32, zdt A t i v → L i (sI s' 4 v) := fun v hv => by
        rw [eL]
        exact ⟨by omega, hS4.tI (by simp) _, hB4, hv⟩
      show W_X5_reaches_L130 Q (L 0) (m + 1) (nI (i + 1) - 1) s'
      rw [nI_pred]
      refine br_f (nI_pos (by omega)) ⟨vi, ?_⟩
      rw [ix_nI (by omega), hB4 i (by omega), (hR4.2.2.1 i (by omega)).1]
      refine br_c (fun c => nm_e (nm_r (nI_m1 i) (hgo _ (hnew _ ?_)))) (fun c => ⟨vi, nt_c (fun d => nm_e (nm_r (nI_m1 i) (hgo _ (hnew _ ?_)))) (fun d => br_c (fun e => nm_e (nm_r (nI_m1 i) (hgo _ (hnew _ ?_)))) (fun e => ?_))⟩)
      · have c' := bI_0.mp c
        have hj : ∀ j, i ≤ j → j = i ∨ i + 1 ≤ j := fun j h => by omega
        rcases hd4 with ⟨q, h1, h2, h3, h4, h5, h6⟩ | ⟨h1, ⟨q, h2, h3, h4, h5, h6⟩ | ⟨h2, h3⟩⟩
        · exact Or.inl ⟨q, by omega, h2, h3, h4, fun j q1 q2 => by
            rcases hj j q1 with r | r
            · rw [r, c', Bool.and_false]
            · exact h5 j r q2, h6⟩
        · exact Or.inr ⟨fun j q1 q2 => by
            rcases hj j q1 with r | r
            · rw [r, c', Bool.and_false]
            · exact h1 j r q2, Or.inl ⟨q, by omega, h3, h4, fun j q1 q2 => by
            rcases hj j q1 with r | r
            · rw [r, c']
            · exact h5 j r q2, h6⟩⟩
        · exact Or.inr ⟨fun j q1 q2 => by
            rcases hj j q1 with r | r
            · rw [r, c', Bool.and_false]
            · exact h1 j r q2, Or.inr ⟨fun j q1 q2 => by
            rcases hj j q1 with r | r
            · rw [r, c']
            · exact h2 j r q2, h3⟩⟩
      · exact Or.inl ⟨i, Nat.le_refl _, by omega, bI_n0.mp d, bI_n0.mp c, fun j q1 q2 => by omega, rfl⟩
      · -- the first that is in the part
        have c' := bI_n0.mp c
        have d' := bI_0.mp d
        have hj : ∀ j, i ≤ j → j = i ∨ i + 1 ≤ j := fun j h => by omega
        have hm1 : ∀ q, q < 6 → gI s' 4 ≠ nI q := fun q hq r => by
          rw [r] at e
          have := congrArg Int32.toInt e
          rw [nI_toInt (by omega)] at this
          have e2 : (-1 : Int32).toInt = -1 := rfl
          omega
        rcases hd4 with ⟨q, h1, h2, h3, h4, h5, h6⟩ | ⟨h1, ⟨q, h2, h3, h4, h5, h6⟩ | ⟨h2, h3⟩⟩
        · exact absurd h6 (hm1 q (by omega))
        · exact absurd h6 (hm1 q (by omega))
        · exact Or.inr ⟨fun j q1 q2 => by
            rcases hj j q1 with r | r
            · rw [r, d', Bool.false_and]
            · exact h1 j r q2, Or.inl ⟨i, Nat.le_refl _, by omega, c', fun j q1 q2 => by omega, rfl⟩⟩
      · have c' := bI_n0.mp c
        have d' := bI_0.mp d
        have hj : ∀ j, i ≤ j → j = i ∨ i + 1 ≤ j := fun j h => by omega
        rcases hd4 with ⟨q, h1, h2, h3, h4, h5, h6⟩ | ⟨h1, ⟨q, h2, h3, h4, h5, h6⟩ | ⟨h2, h3⟩⟩
        · rw [h6]
          refine ⟨vp_in_nI (by omega) (by omega), ?_⟩
          rw [ix_nI (by omega), (hR4.2.2.1 q (by omega)).1, h3]
          refine nt_t (by decide) (nm_e (nm_r (nI_m1 i) (hgo _ (hnew _ ?_))))
          exact Or.inl ⟨q, by omega, h2, h3, h4, fun j q1 q2 => by
            rcases hj j q1 with r | r
            · rw [r, d', Bool.false_and]
            · exact h5 j r q2, rfl⟩
        · rw [h6]
          refine ⟨vp_in_nI (by omega) (by omega), ?_⟩
          have hq0 : ntl A q = false := by
            have := h1 q h2 h3
            rw [h4, Bool.and_true] at this
            exact this
          rw [ix_nI (by omega), (hR4.2.2.1 q (by omega)).1, hq0]
          refine nt_f rfl (nm_e (nm_r (nI_m1 i) (hgo _ (hnew _ ?_))))
          exact Or.inr ⟨fun j q1 q2 => by
            rcases hj j q1 with r | r
            · rw [r, d', Bool.false_and]
            · exact h1 j r q2, Or.inl ⟨i, Nat.le_refl _, by omega, c', fun j q1 q2 => by omega, rfl⟩⟩
        · exact absurd h3 e)
    (nnn A) (sI s2 4 (-1)) (by
      rw [eL]
      exact ⟨Nat.le_refl _, hS3, fun q hq => (hB q hq).trans (by rw [hBI]), Or.inr ⟨fun j q1 q2 => by omega, Or.inr ⟨fun j q1 q2 => by omega, rfl⟩⟩⟩)
  refine ⟨_, _, fun s' hL => ?_, hm4⟩
  rw [eL] at hL
  exact hQ s' hL.2.1 ⟨hkeep _ hL.2.1, zdt_0 ht hL.2.2.2, hL.2.2.1⟩
end ZMODEL

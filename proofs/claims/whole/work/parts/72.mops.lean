/-! THE MODEL DOES SO -/
section ZMOPS
def RMP (P : zPa) (m : zS) : Prop := gI m 2 = nI P.1 ∧ (0 < P.1 → gF m 7 0 = nI P.2.1 ∧ gF m 7 (P.1 - 1) = nI P.2.2.1) ∧ gI m 3 = P.2.2.2
def SM (A : zNt) (P : zPa) (m : zS) : Prop := zok A ∧ pok A P ∧ RM A m ∧ RMP P m
theorem RMP.sm {P : zPa} {li lj lf ll : List Nat} {s s' : zS} (h : RMP P s) (m : zSm li lj lf ll s s') (h1 : 2 ∉ li ∧ 3 ∉ li) (h2 : 7 ∉ lf) : RMP P s' := by
  obtain ⟨a, b, c⟩ := h
  refine ⟨by rw [m.1 2 h1.1]; exact a, ?_, by rw [m.1 3 h1.2]; exact c⟩
  rw [m.2.2.1 7 h2]
  exact b
theorem SM.scr {A : zNt} {P : zPa} {s s' : zS} (h : SM A P s) (m : zScm s s') : SM A P s' :=
  ⟨h.1, h.2.1, h.2.2.1.sm m ⟨by simp, by simp⟩ ⟨by simp, by simp, by simp, by simp, by simp, by simp, by simp⟩, h.2.2.2.sm m ⟨by simp, by simp⟩ (by simp)⟩
theorem SM.th {A : zNt} {P : zPa} {s : zS} (h : SM A P s) (v : Int32) : SM A P (sI s 5 v) := by
  have m : zSm [5] [] [] [] s (sI s 5 v) := (zSm.rf s).tI (by simp) _
  exact ⟨h.1, h.2.1, h.2.2.1.sm m ⟨by simp, by simp⟩ ⟨by simp, by simp, by simp, by simp, by simp, by simp, by simp⟩, h.2.2.2.sm m ⟨by simp, by simp⟩ (by simp)⟩
/-- what the model's call leaves: its thrown, its answer, its state -/
def mkM (o : zOp) (r : Int64) (m : zS) : Prop := gI m 5 = nI o.1 ∧ (o.1 = 0 → r = o.2.1) ∧ SM o.2.2.1 o.2.2.2 m
theorem W_go0 {s : zS} (Q : Int32 → zS → Prop) (h : Q 1 (sI s 5 0)) : W_X5_goes s 0 Q := nm_e (nt_f rfl h)
theorem W_go1 {s : zS} {c : Nat} (hc : 0 < c) (hc9 : c < 9) (Q : Int32 → zS → Prop) (h : Q 0 (sI s 5 (nI c))) : W_X5_goes s (nI c) Q := nm_e (nt_t (nI_ne0 hc (by omega)) h)
theorem W_isSt {A : zNt} {P : zPa} {s : zS} (h : SM A P s) (x : Int32) (Q : Int32 → Prop) (h1 : ∀ j, j < nnn A → x = nI j → zopt x (nnn A) = some j → Q 1) (h0 : zopt x (nnn A) = none → Q 0) : W_X5_isStation s x Q := by
  have hn := h.1.1
  exact W_isStationM h.1 h.2.2.1 x _ (fun j hj e => h1 j hj e (by rw [e]; exact zopt_s hj (by omega))) (fun hno => h0 (zopt_n (by omega) hno))
theorem W_isOb {A : zNt} {P : zPa} {s : zS} (h : SM A P s) (x : Int32) (Q : Int32 → Prop) (h1 : ∀ j, j < nko A → x = nI j → zopt x (nko A) = some j → Q 1) (h0 : zopt x (nko A) = none → Q 0) : W_X5_isObservation s x Q := by
  have hn := h.1.2.1
  exact W_isObservationM h.1 h.2.2.1 x _ (fun j hj e => h1 j hj e (by rw [e]; exact zopt_s hj (by omega))) (fun hno => h0 (zopt_n (by omega) hno))
theorem W_isBet (s : zS) (x a b : Int32) (Q : Int32 → Prop) (h1 : a.toInt ≤ x.toInt ∧ x.toInt ≤ b.toInt → Q 1) (h0 : ¬ (a.toInt ≤ x.toInt ∧ x.toInt ≤ b.toInt) → Q 0) : W_X5_isBetween s x a b Q := by
  unfold W_X5_isBetween
  rw [Int32.lt_iff_toInt_lt, Int32.lt_iff_toInt_lt]
  exact br_c (fun c => h0 (by omega)) (fun c => br_c (fun c2 => h0 (by omega)) (fun c2 => h1 (by omega)))
theorem M_station {A : zNt} {P : zPa} {s : zS} (h : SM A P s) : W_X5_station s (fun r => mkM (oStation A P) r.toInt64) := by
  have hn := h.1.1
  unfold oStation
  by_cases c : nnn A < 6
  · rw [if_pos c]
    refine ⟨fun v => v = 0, fun v hv => ?_, nt_t ?_ rfl⟩
    · subst hv
      refine W_go0 _ (nt_t (by decide) (nm_r (by rw [gI_sI, if_neg (by decide), h.2.2.1.1, nI_1]) ?_))
      have hS : zSm [0, 5] [] [] [] s (sI (sI s 5 0) 0 (nI (nnn A + 1))) := (((zSm.rf s).tI (by simp) _).tI (by simp) _)
      refine ⟨rfl, fun _ => ?_, addSt_ok h.1 c, ⟨h.2.1.1, fun q => ?_, h.2.1.2.2⟩, ?_, h.2.2.2.sm hS ⟨by simp, by simp⟩ (by simp)⟩
      · show (nI (nnn A + 1) - 1).toInt64 = _
        rw [nI_pred]
        exact nI_l64 (by omega)
      · have := h.2.1.2.1 q
        exact ⟨Nat.lt_succ_of_lt this.1, Nat.lt_succ_of_lt this.2⟩
      · obtain ⟨r0, r1, r2, r3, r4⟩ := h.2.2.1
        exact ⟨rfl, r1, r2, r3, r4⟩
    · rw [h.2.2.1.1]
      intro q
      have := (nI_eq (b := 6) (by omega) (by omega)).mp q
      omega
  · rw [if_neg c]
    refine ⟨fun v => v = nI 1, fun v hv => ?_, nt_f ?_ rfl⟩
    · subst hv
      exact W_go1 (by omega) (by omega) _ (nt_f rfl ⟨rfl, fun q => absurd (show (1 : Nat) = 0 from q) (by decide), h.th _⟩)
    · rw [h.2.2.1.1]
      have : nnn A = 6 := by omega
      rw [this]
      rfl
theorem SM_tl {A : zNt} {P : zPa} {s : zS} (h : SM A P s) {j : Nat} (hj : j < nnn A) (b : Bool) (v : Int) (hv : b = true → -9999 ≤ v ∧ v ≤ 9999) {u : Int32} (hu : u = iI (if b = true then v else 0)) : SM (setTl A j b v) P (sF (sF s 0 j (bI b)) 1 j u) := by
  have hS : zSm [] [] [0, 1] [] s (sF (sF s 0 j (bI b)) 1 j u) := ((zSm.rf s).tF (by simp) _ _).tF (by simp) _ _
  refine ⟨setTl_ok h.1 hj b hv, h.2.1, ?_, h.2.2.2.sm hS ⟨by simp, by simp⟩ (by simp)⟩
  obtain ⟨r0, r1, r2, r3, r4⟩ := h.2.2.1
  refine ⟨r0, r1, fun q hq => ?_, r3, r4⟩
  obtain ⟨g1, g2⟩ := r2 q hq
  show gF (sF (sF s 0 j (bI b)) 1 j u) 0 q = bI (zup (ntl A) j b q) ∧ gF (sF (sF s 0 j (bI b)) 1 j u) 1 q = iI (zup (nth A) j (if b = true then v else 0) q)
  rw [gF_sFn _ (by decide), gF_sFs, gF_sFs, gF_sFn _ (by decide)]
  by_cases e : q = j
  · subst e
    rw [if_pos rfl, if_pos rfl, zup_s, zup_s, hu]
    exact ⟨rfl, rfl⟩
  · rw [if_neg e, if_neg e, zup_n _ _ e, zup_n _ _ e]
    exact ⟨g1, g2⟩
theorem M_datum {A : zNt} {P : zPa} {s : zS} (h : SM A P s) (x y : Int32) (b : Bool) : W_X5_datum s x y (bI b) (fun r => mkM (oDatum A P x y b) (if r = 0 then 0 else 1)) := by
  have hn := h.1.1
  unfold oDatum
  refine W_isSt h x _ (fun j hj e ho => ?_) (fun ho => ?_)
  · rw [ho]
    subst e
    dsimp only
    have vj : vp_in (nI j) 6 := vp_in_nI (by omega) (by omega)
    by_cases c : b = true ∧ zrng y = false
    · rw [if_pos c]
      refine ⟨fun v => v = nI 2, fun v hv => ?_, nt_t (by decide) (br_f (fun q => by rw [bI_0.mp q] at c; exact absurd c.1 (by decide)) (W_isBet s y _ _ _ (fun q => ?_) (fun q => nt_f rfl rfl)))⟩
      · subst hv
        exact W_go1 (by omega) (by omega) _ (nt_f rfl ⟨rfl, fun q => absurd (show (2 : Nat) = 0 from q) (by decide), h.th _⟩)
      · have := (zrng_iff y).mpr q
        rw [c.2] at this
        cases this
    · rw [if_neg c]
      refine ⟨fun v => v = 0, fun v hv => ?_, nt_t (by decide) (br_c (fun q => rfl) (fun q => W_isBet s y _ _ _ (fun q2 => nt_t (by decide) rfl) (fun q2 => ?_)))⟩
      · subst hv
        have hv : b = true → -9999 ≤ y.toInt ∧ y.toInt ≤ 9999 := fun q => (zrng_iff y).mp (by
          cases hh : zrng y
          · exact absurd ⟨q, hh⟩ c
          · rfl)
        refine W_go0 _ (nt_t (by decide) ⟨vj, nm_r (e' := bI (ntl A j)) (by rw [ix_nI (by omega)]; exact (h.2.2.1.2.2.1 j (by omega)).1) ⟨vj, nm_e ?_⟩⟩)
        rw [ix_nI (by omega), vn_bI]
        cases hb : b
        · rw [hb] at hv
          exact br_t rfl ⟨vj, nm_e ⟨bI_nar _, rfl, fun _ => bI_l _, SM_tl (h.th 0) hj false y.toInt hv rfl⟩⟩
        · rw [hb] at hv
          exact br_f (by decide) ⟨vj, nm_e ⟨bI_nar _, rfl, fun _ => bI_l _, SM_tl (h.th 0) hj true y.toInt hv (iI_of y)⟩⟩
      · have hb := bI_n0.mp q
        have hz : zrng y = false := by
          cases hh : zrng y
          · rfl
          · exact absurd ((zrng_iff y).mp hh) q2
        exact absurd ⟨hb, hz⟩ c
  · rw [ho]
    refine ⟨fun v => v = nI 1, fun v hv => ?_, nt_f rfl rfl⟩
    subst hv
    exact W_go1 (by omega) (by omega) _ (nt_f rfl ⟨rfl, fun q => absurd (show (1 : Nat) = 0 from q) (by decide), h.th _⟩)
theorem M_observe {A : zNt} {P : zPa} {s : zS} (h : SM A P s) (x y d w : Int32) : W_X5_observe s x y d w (fun r => mkM (oObserve A P x y d w) r.toInt64) := by
  have hn := h.1.1
  have hk := h.1.2.1
  obtain ⟨O, hO⟩ : ∃ O : zOp, O = oObserve A P x y d w := ⟨_, rfl⟩
  rw [← hO]
  unfold oObserve at hO
  -- are both stations
  obtain ⟨are, hare⟩ : ∃ are : Bool, are = ((zopt x (nnn A)).isSome && (zopt y (nnn A)).isSome) := ⟨_, rfl⟩
  obtain ⟨isr, hisr⟩ : ∃ isr : Bool, isr = (decide (x ≠ y) && (zrng d && decide (1 ≤ w.toInt ∧ w.toInt ≤ 5))) := ⟨_, rfl⟩
  have h1 : W_X5_isStation s x (fun r1 => (∃ k4 : Int32 → Prop, (∀ v : Int32, k4 v → v = bI are) ∧ ((r1 = 0 → k4 0) ∧ (¬ r1 = 0 → W_X5_isStation s y (fun r36 => (r36 = 0 → k4 0) ∧ (¬ r36 = 0 → k4 1)))))) := by
    refine W_isSt h x _ (fun i hi e ho => ⟨fun v => v = bI are, fun v hv => hv, br_f (by decide) (W_isSt h y _ (fun j hj e2 ho2 => br_f (by decide) ?_) (fun ho2 => br_t rfl ?_))⟩) (fun ho => ⟨fun v => v = bI are, fun v hv => hv, br_t rfl ?_⟩)
    · rw [hare, ho, ho2]; rfl
    · rw [hare, ho2, Bool.and_comm]; rfl
    · rw [hare, ho]; rfl
  have hgo : ∀ v : Int32, v = nI O.1 → W_X5_goes s v (fun r18 s19 => (¬ r18 = 0 → vp_in (gI s19 1) 14 ∧ ∀ s22 : zS, s22 = sF s19 2 (ix (gI s19 1)) x → vp_in (gI s22 1) 14 ∧ ∀ s24 : zS, s24 = sF s22 3 (ix (gI s22 1)) y → vp_in (gI s24 1) 14 ∧ ∀ s26 : zS, s26 = sF s24 4 (ix (gI s24 1)) d → vp_in (gI s26 1) 14 ∧ ∀ s28 : zS, s28 = sF s26 5 (ix (gI s26 1)) w → ∀ s29 : zS, s29 = sI s28 1 ((gI s28 1) + 1) → mkM O ((gI s29 1) - 1).toInt64 s29) ∧ (r18 = 0 → mkM O (0 : Int32).toInt64 s19)) := by
    intro v hv
    subst hv
    have hbad : 0 < O.1 → O.1 < 9 → O.2.2.1 = A → O.2.2.2 = P → W_X5_goes s (nI O.1) (fun r18 s19 => (¬ r18 = 0 → vp_in (gI s19 1) 14 ∧ ∀ s22 : zS, s22 = sF s19 2 (ix (gI s19 1)) x → vp_in (gI s22 1) 14 ∧ ∀ s24 : zS, s24 = sF s22 3 (ix (gI s22 1)) y → vp_in (gI s24 1) 14 ∧ ∀ s26 : zS, s26 = sF s24 4 (ix (gI s24 1)) d → vp_in (gI s26 1) 14 ∧ ∀ s28 : zS, s28 = sF s26 5 (ix (gI s26 1)) w → ∀ s29 : zS, s29 = sI s28 1 ((gI s28 1) + 1) → mkM O ((gI s29 1) - 1).toInt64 s29) ∧ (r18 = 0 → mkM O (0 : Int32).toInt64 s19)) := fun o1 o9 o2 o3 => by
      refine W_go1 o1 o9 _ (nt_f rfl ⟨rfl, fun q => by omega, ?_⟩)
      rw [o2, o3]
      exact h.th _
    rcases hx : zopt x (nnn A) with _ | i
    · rw [hx] at hO
      have : O = (1, 0, A, P) := by rw [hO]
      exact hbad (by rw [this]; exact Nat.one_pos) (by rw [this]; exact (by decide : 1 < 9)) (by rw [this]) (by rw [this])
    · rcases hy : zopt y (nnn A) with _ | j
      · rw [hx, hy] at hO
        have : O = (1, 0, A, P) := by rw [hO]
        exact hbad (by rw [this]; exact Nat.one_pos) (by rw [this]; exact (by decide : 1 < 9)) (by rw [this]) (by rw [this])
      · rw [hx, hy] at hO
        dsimp only at hO
        by_cases c : i = j ∨ zrng d = false ∨ ¬ (1 ≤ w.toInt ∧ w.toInt ≤ 5)
        · rw [if_pos c] at hO
          exact hbad (by rw [hO]; exact (by decide : 0 < 2)) (by rw [hO]; exact (by decide : 2 < 9)) (by rw [hO]) (by rw [hO])
        · rw [if_neg c] at hO
          by_cases c14 : nko A < 14
          · rw [if_pos c14] at hO
            have o1 : O.1 = 0 := by rw [hO]
            rw [o1]
            have hj : ∀ z k, zopt z (nnn A) = some k → k < nnn A ∧ z = nI k := fun z k hz => by
              rcases zix z (n := nnn A) (by omega) with ⟨q, hq, e⟩ | ⟨hno, -⟩
              · rw [e, zopt_s hq (by omega)] at hz
                cases hz
                exact ⟨hq, e⟩
              · rw [zopt_n (by omega) hno] at hz
                cases hz
            obtain ⟨hi, ei⟩ := hj x i hx
            obtain ⟨hj2, ej⟩ := hj y j hy
            have hd : -9999 ≤ d.toInt ∧ d.toInt ≤ 9999 := (zrng_iff d).mp (by
              cases hh : zrng d
              · exact absurd (Or.inr (Or.inl hh)) c
              · rfl)
            have hw : 1 ≤ w.toInt ∧ w.toInt ≤ 5 := by
              by_cases q : 1 ≤ w.toInt ∧ w.toInt ≤ 5
              · exact q
              · exact absurd (Or.inr (Or.inr q)) c
            have hin : vp_in (nI (nko A)) 14 := vp_in_nI (by omega) (by omega)
            have e1 : gI (sI s 5 (nI 0)) 1 = nI (nko A) := h.2.2.1.2.1
            refine W_go0 _ (nt_t (by decide) ?_)
            refine ⟨by rw [show gI (sI s 5 0) 1 = nI (nko A) from h.2.2.1.2.1]; exact hin, nm_e ?_⟩
            refine ⟨by rw [gI_sF, show gI (sI s 5 0) 1 = nI (nko A) from h.2.2.1.2.1]; exact hin, nm_e ?_⟩
            refine ⟨by rw [gI_sF, gI_sF, show gI (sI s 5 0) 1 = nI (nko A) from h.2.2.1.2.1]; exact hin, nm_e ?_⟩
            refine ⟨by rw [gI_sF, gI_sF, gI_sF, show gI (sI s 5 0) 1 = nI (nko A) from h.2.2.1.2.1]; exact hin, nm_e (nm_e ?_)⟩
            simp only [gI_sF, show gI (sI s 5 0) 1 = nI (nko A) from h.2.2.1.2.1, ix_nI (show nko A < 2 ^ 31 by omega), nI_1]
            have hS : zSm [1, 5] [] [2, 3, 4, 5] [] s (sI (sF (sF (sF (sF (sI s 5 0) 2 (nko A) x) 3 (nko A) y) 4 (nko A) d) 5 (nko A) w) 1 (nI (nko A + 1))) := (((((((zSm.rf s).tI (by simp) _).tF (by simp) _ _).tF (by simp) _ _).tF (by simp) _ _).tF (by simp) _ _).tI (by simp) _)
            refine ⟨by rw [o1]; rfl, fun _ => ?_, ?_⟩
            · rw [hO]
              show (nI (nko A + 1) - 1).toInt64 = lI (nko A)
              rw [nI_pred]
              exact nI_l64 (by omega)
            · rw [hO]
              refine ⟨addOb_ok h.1 c14 hi hj2 (fun q => c (Or.inl q)) hd hw, h.2.1, ?_, h.2.2.2.sm hS ⟨by simp, by simp⟩ (by simp)⟩
              obtain ⟨r0, r1, r2, r3, r4⟩ := h.2.2.1
              refine ⟨r0, rfl, r2, fun o ho => ?_, r4⟩
              have ho : o < nko A + 1 := ho
              simp only [gF_sI, gF_sF, upd, reduceIte, Nat.reduceEqDiff]
              show _ = nI (zup (nfr A) (nko A) i o) ∧ _ = nI (zup (nto A) (nko A) j o) ∧ _ = iI (zup (ndf A) (nko A) d.toInt o) ∧ _ = iI (zup (nwt A) (nko A) w.toInt o)
              by_cases e : o = nko A
              · subst e
                rw [if_pos rfl, if_pos rfl, if_pos rfl, if_pos rfl, zup_s, zup_s, zup_s, zup_s]
                exact ⟨ei, ej, iI_of d, iI_of w⟩
              · rw [if_neg e, if_neg e, if_neg e, if_neg e, zup_n _ _ e, zup_n _ _ e, zup_n _ _ e, zup_n _ _ e]
                exact r3 o (by omega)
          · rw [if_neg c14] at hO
            exact hbad (by rw [hO]; exact (by decide : 0 < 3)) (by rw [hO]; exact (by decide : 3 < 9)) (by rw [hO]) (by rw [hO])
  have hx2 : ∀ z k, zopt z (nnn A) = some k → k < nnn A ∧ z = nI k := fun z k hz => by
    rcases zix z (n := nnn A) (by omega) with ⟨q, hq, e⟩ | ⟨hno, -⟩
    · rw [e, zopt_s hq (by omega)] at hz
      cases hz
      exact ⟨hq, e⟩
    · rw [zopt_n (by omega) hno] at hz
      cases hz
  have hpick : (¬ bI are = 0 → (¬ bI isr = 0 → (¬ (gI s 1) = 14 → (0 : Int32) = nI O.1) ∧ ((gI s 1) = 14 → (3 : Int32) = nI O.1)) ∧ (bI isr = 0 → (2 : Int32) = nI O.1)) ∧ (bI are = 0 → (1 : Int32) = nI O.1) := by
    rcases hx : zopt x (nnn A) with _ | i
    · rw [hx] at hO hare
      have : O = (1, 0, A, P) := by rw [hO]
      rw [this, hare]
      exact nt_f rfl rfl
    · rcases hy : zopt y (nnn A) with _ | j
      · rw [hx, hy] at hO hare
        have : O = (1, 0, A, P) := by rw [hO]
        rw [this, hare]
        exact nt_f rfl rfl
      · rw [hx, hy] at hO hare
        dsimp only at hO
        obtain ⟨hi, ei⟩ := hx2 x i hx
        obtain ⟨hj, ej⟩ := hx2 y j hy
        have hxy : x ≠ y ↔ i ≠ j := by
          rw [ei, ej]
          exact not_congr (nI_eq (by omega) (by omega))
        rw [hare]
        refine nt_t (show ¬ bI true = 0 by decide) ?_
        by_cases c : i = j ∨ zrng d = false ∨ ¬ (1 ≤ w.toInt ∧ w.toInt ≤ 5)
        · rw [if_pos c] at hO
          have : isr = false := by
            rw [hisr]
            rcases c with c | c | c
            · rw [decide_eq_false (fun q => hxy.mp q c), Bool.false_and]
            · rw [c, Bool.false_and, Bool.and_false]
            · rw [decide_eq_false c, Bool.and_false, Bool.and_false]
          rw [this, hO]
          exact nt_f rfl rfl
        · rw [if_neg c] at hO
          have : isr = true := by
            rw [hisr, decide_eq_true (hxy.mpr (fun q => c (Or.inl q)))]
            have h1 : zrng d = true := by
              cases hh : zrng d
              · exact absurd (Or.inr (Or.inl hh)) c
              · rfl
            have h2 : 1 ≤ w.toInt ∧ w.toInt ≤ 5 := by
              by_cases q : 1 ≤ w.toInt ∧ w.toInt ≤ 5
              · exact q
              · exact absurd (Or.inr (Or.inr q)) c
            rw [h1, decide_eq_true h2]
            rfl
          rw [this, h.2.2.1.2.1]
          refine nt_t (by decide) ?_
          by_cases c14 : nko A < 14
          · rw [if_pos c14] at hO
            rw [hO]
            exact nt_t (fun q => by have := (nI_eq (b := 14) (by omega) (by omega)).mp q; omega) rfl
          · rw [if_neg c14] at hO
            rw [hO, show nko A = 14 by omega]
            exact nt_f rfl rfl
  have hmono : ∀ (Q1 Q2 : Int32 → Prop), (∀ r, Q1 r → Q2 r) → W_X5_isStation s x Q1 → W_X5_isStation s x Q2 := fun Q1 Q2 hq hw => by
    unfold W_X5_isStation W_X5_isBetween at hw ⊢
    exact ⟨fun c => ⟨(hw.1 c).1, hq _ (hw.1 c).2⟩, fun c => ⟨fun c2 => ⟨((hw.2 c).1 c2).1, hq _ ((hw.2 c).1 c2).2⟩, fun c2 => ⟨((hw.2 c).2 c2).1, hq _ ((hw.2 c).2 c2).2⟩⟩⟩
  refine hmono _ _ (fun r1 hr => ?_) h1
  obtain ⟨k4, hk4, hk4'⟩ := hr
  refine ⟨k4, fun v7 hv7 => nm_r (hk4 v7 hv7) ⟨fun v => v = bI isr, fun v12 hv12 => nm_r hv12 ⟨fun v => v = nI O.1, hgo, hpick⟩, ?_⟩, hk4'⟩
  refine br_c (fun c => ?_) (fun c => ?_)
  · rw [hisr, decide_eq_false (fun q => q c), Bool.false_and]
    rfl
  · rw [hisr, decide_eq_true c, Bool.true_and]
    refine W_isBet s d _ _ _ (fun q => br_f (by decide) (W_isBet s w _ _ _ (fun q2 => br_f (by decide) ?_) (fun q2 => br_t rfl ?_))) (fun q => br_t rfl ?_)
    · rw [(zrng_iff d).mpr q, decide_eq_true (show 1 ≤ w.toInt ∧ w.toInt ≤ 5 from q2)]
      rfl
    · rw [decide_eq_false (show ¬ (1 ≤ w.toInt ∧ w.toInt ≤ 5) from q2), Bool.and_false]
      rfl
    · have hz : zrng d = false := by
        cases hh : zrng d
        · rfl
        · exact absurd ((zrng_iff d).mp hh) q
      rw [hz, Bool.false_and]
      rfl
end ZMOPS

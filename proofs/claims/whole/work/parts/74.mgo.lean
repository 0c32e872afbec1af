/-! THE MODEL DOES SO (3): go -/
section ZMGO
/-- the lowest that joins, found from above -/
def zjn (A : zNt) (a b i : Nat) (v : Int32) : Prop := (∃ q, i ≤ q ∧ q < nko A ∧ njo A a b q = true ∧ (∀ j, i ≤ j → j < q → njo A a b j = false) ∧ v = nI q) ∨ ((∀ j, i ≤ j → j < nko A → njo A a b j = false) ∧ v = -1)
theorem zjn_0 {A : zNt} {a b : Nat} {v : Int32} (h : zjn A a b 0 v) : (nbt A a b < nko A ∧ v = nI (nbt A a b)) ∨ (nbt A a b = nko A ∧ v = -1) := by
  rcases h with ⟨q, h1, h2, h3, h4, h5⟩ | ⟨h1, h2⟩
  · have : nbt A a b = q := zfst_at h3 (fun j hj => h4 j (Nat.zero_le _) hj) _ h2
    rw [this]
    exact Or.inl ⟨h2, h5⟩
  · exact Or.inr ⟨zfst_no _ (fun j hj => h1 j (Nat.zero_le _) hj), h2⟩
theorem W_joins {A : zNt} (hA : zok A) {s : zS} (hR : RM A s) {a b : Nat} (ha : a < 2 ^ 31) (hb : b < 2 ^ 31) (Q : Int32 → Prop) (h : nbt A a b < nko A → Q (nI (nbt A a b))) (h0 : nbt A a b = nko A → Q (-1)) : W_X5_joins s (nI a) (nI b) Q := by
  have hn := hA.1
  have hk14 := hA.2.1
  refine nm_e (nm_r (by rw [hR.2.1]) ?_)
  obtain ⟨L, eL⟩ : ∃ L : Nat → Int32 → Prop, L = fun i v => i ≤ nko A ∧ zjn A a b i v := ⟨_, rfl⟩
  have hm := pk_loopD (fun m i (v : Int32) => W_X5_joins_L10 s (nI a) (nI b) Q (L 0) m v (nI i - 1)) L
    (fun m v hL => br_t (by decide) hL)
    (fun m i v hL hgo => by
      rw [eL] at hL
      obtain ⟨hi, hz⟩ := hL
      have vi : vp_in (nI i) 14 := vp_in_nI (by omega) (by omega)
      have hj : ∀ j, i ≤ j → j = i ∨ i + 1 ≤ j := fun j h => by omega
      have hkeep : njo A a b i = false → L i v := fun hf => by
        rw [eL]
        refine ⟨by omega, ?_⟩
        rcases hz with ⟨q, h1, h2, h3, h4, h5⟩ | ⟨h1, h2⟩
        · exact Or.inl ⟨q, by omega, h2, h3, fun j q1 q2 => by
            rcases hj j q1 with r | r
            · rw [r]; exact hf
            · exact h4 j r q2, h5⟩
        · exact Or.inr ⟨fun j q1 q2 => by
            rcases hj j q1 with r | r
            · rw [r]; exact hf
            · exact h1 j r q2, h2⟩
      have htake : njo A a b i = true → L i (nI i) := fun hf => by
        rw [eL]
        exact ⟨by omega, Or.inl ⟨i, Nat.le_refl _, by omega, hf, fun j q1 q2 => by omega, rfl⟩⟩
      show W_X5_joins_L10 s (nI a) (nI b) Q (L 0) (m + 1) v (nI (i + 1) - 1)
      rw [nI_pred]
      obtain ⟨e2, e3, -⟩ := hR.2.2.2.1 i (by omega)
      obtain ⟨f1, f2, -⟩ := hA.2.2.1 i (by omega)
      refine br_f (nI_pos (by omega)) ⟨vi, ?_⟩
      rw [ix_nI (by omega), e2, e3, hR.2.2.2.2 i (by omega)]
      have q1 : nI (nfr A i) = nI a ↔ nfr A i = a := nI_eq (by omega) ha
      have q2 : nI (nto A i) = nI b ↔ nto A i = b := nI_eq (by omega) hb
      have q3 : nI (nfr A i) = nI b ↔ nfr A i = b := nI_eq (by omega) hb
      have q4 : nI (nto A i) = nI a ↔ nto A i = a := nI_eq (by omega) ha
      obtain ⟨is, his⟩ : ∃ is : Bool, is = ((nfr A i == a && nto A i == b) || (nfr A i == b && nto A i == a)) := ⟨_, rfl⟩
      have hjo : njo A a b i = (!nwd A i && is) := by rw [his]; rfl
      refine ⟨fun v => v = bI is, fun v15 hv15 => nm_r hv15 (br_c (fun c => nm_e (nm_r (nI_m1 i) (hgo v (hkeep ?_)))) (fun c => ⟨vi, nt_c (fun d => nm_e (nm_r (nI_m1 i) (hgo v (hkeep ?_)))) (fun d => nm_e (nm_r (nI_m1 i) (hgo _ (htake ?_))))⟩)), ?_⟩
      · rw [hjo, bI_0.mp c, Bool.and_false]
      · rw [hjo, bI_n0.mp d]
        rfl
      · rw [hjo, bI_0.mp d, bI_n0.mp c]
        rfl
      · rw [q1, q2, q3, q4, his]
        by_cases c1 : nfr A i = a <;> by_cases c2 : nto A i = b <;> by_cases c3 : nfr A i = b <;> by_cases c4 : nto A i = a <;> simp [c1, c2, c3, c4, vi, bI] <;> simp_all [bI])
    (nko A) (-1) (by
      rw [eL]
      exact ⟨Nat.le_refl _, Or.inr ⟨fun j q1 q2 => by omega, rfl⟩⟩)
  refine ⟨_, _, fun v hL => ?_, hm⟩
  rw [eL] at hL
  rcases zjn_0 hL.2 with ⟨h1, h2⟩ | ⟨h1, h2⟩
  · rw [h2]
    exact h h1
  · rw [h2]
    exact h0 h1
theorem M_go {A : zNt} {P : zPa} {s : zS} (h : SM A P s) (x : Int32) : W_X5_go s x (fun r => mkM (oGo A P x) r.toInt64) := by
  have hn := h.1.1
  have hk := h.1.2.1
  have hp := h.2.1.1
  obtain ⟨O, hO⟩ : ∃ O : zOp, O = oGo A P x := ⟨_, rfl⟩
  rw [← hO]
  unfold oGo at hO
  obtain ⟨p2, p7, p3⟩ := h.2.2.2
  have hbad : ∀ c, 0 < c → c < 9 → O = (c, 0, A, P) → ∀ x9 : Int32, W_X5_goes s (nI c) (fun r14 s15 => (¬ r14 = 0 → ∃ k17 : Int32 → Prop, (∀ v20 : Int32, k17 v20 → ∀ s21 : zS, s21 = sI s15 3 ((gI s15 3) + v20) → vp_in (gI s21 2) 10 ∧ ∀ s23 : zS, s23 = sF s21 7 (ix (gI s21 2)) x → ∀ s24 : zS, s24 = sI s23 2 ((gI s23 2) + 1) → mkM O ((gI s24 2)).toInt64 s24) ∧ ((¬ x9 = -1 → vp_in x9 14 ∧ (¬ (gF s15 3 (ix x9)) = x → vp_in x9 14 ∧ k17 (-(gF s15 4 (ix x9)))) ∧ ((gF s15 3 (ix x9)) = x → vp_in x9 14 ∧ k17 (gF s15 4 (ix x9)))) ∧ (x9 = -1 → k17 0))) ∧ (r14 = 0 → mkM O (0 : Int32).toInt64 s15)) := fun c c1 c9 e x9 => by
    refine W_go1 c1 c9 _ (nt_f rfl ?_)
    rw [e]
    exact ⟨rfl, fun q => absurd (show c = 0 from q) (by omega), h.th _⟩
  refine W_isSt h x _ (fun j hj e ho => nm_e ?_) (fun ho => nm_e ?_)
  · rw [ho] at hO
    subst e
    dsimp only at hO
    rw [p2]
    by_cases c0 : P.1 = 0
    · rw [if_neg (show ¬ P.1 = 10 by omega), if_pos c0] at hO
      have hle : nI P.1 ≤ 0 := by rw [c0]; decide
      refine ⟨fun v => v = -1, fun v hv => nm_r hv ⟨fun v => v = 0, fun v hv => ?_, nt_t (by decide) (br_f (fun q => ?_) (br_t hle rfl))⟩, br_f (by decide) (br_t hle rfl)⟩
      · subst hv
        refine W_go0 _ (nt_t (by decide) ⟨fun v => v = 0, fun v hv => ?_, nt_f rfl rfl⟩)
        subst hv
        refine nm_e ⟨by show vp_in (gI s 2) 10; rw [p2, c0]; exact vp_in_nI (n := 0) (by omega) (by omega), nm_e (nm_e ?_)⟩
        show mkM O (gI s 2 + 1).toInt64 (sI (sF (sI (sI s 5 0) 3 (gI s 3 + 0)) 7 (ix (gI s 2)) (nI j)) 2 (gI s 2 + 1))
        rw [p2, c0, show ix (nI 0) = 0 from rfl, hO]
        have hS : zSm [2, 3, 5] [] [7] [] s (sI (sF (sI (sI s 5 0) 3 (gI s 3 + 0)) 7 0 (nI j)) 2 (nI 0 + 1)) := (((((zSm.rf s).tI (by simp) _).tI (by simp) _).tF (by simp) _ _).tI (by simp) _)
        refine ⟨rfl, fun _ => rfl, h.1, ⟨by show 1 ≤ 10; omega, fun _ => ⟨hj, hj⟩, fun q => absurd (show (1 : Nat) = 0 from q) (by decide)⟩, h.2.2.1.sm hS ⟨by simp, by simp⟩ ⟨by simp, by simp, by simp, by simp, by simp, by simp, by simp⟩, rfl, fun _ => ⟨rfl, rfl⟩, ?_⟩
        show gI s 3 + 0 = P.2.2.2
        rw [Int32.add_zero, p3]
      · have := (nI_eq (b := 10) (by omega) (by omega)).mp q
        omega
    · have hnle : ¬ nI P.1 ≤ 0 := fun q => by
        have := (nI_leI (b := 0) (by omega) (by omega)).mp q
        omega
      obtain ⟨g0, g1⟩ := p7 (by omega)
      obtain ⟨b1, b2⟩ := h.2.1.2.1 (by omega)
      have e1 : nI P.1 - 1 = nI (P.1 - 1) := by
        rw [show P.1 = P.1 - 1 + 1 by omega, nI_pred]
        rfl
      have hcalc : ∀ v8 : Int32, ((nbt A P.2.2.1 j < nko A ∧ v8 = nI (nbt A P.2.2.1 j)) ∨ (nbt A P.2.2.1 j = nko A ∧ v8 = -1)) → ∀ x9 : Int32, x9 = v8 → ∃ k10 : Int32 → Prop, (∀ (v13 : Int32), k10 v13 → W_X5_goes s v13 (fun r14 s15 => (¬ r14 = 0 → ∃ k17 : Int32 → Prop, (∀ v20 : Int32, k17 v20 → ∀ s21 : zS, s21 = sI s15 3 ((gI s15 3) + v20) → vp_in (gI s21 2) 10 ∧ ∀ s23 : zS, s23 = sF s21 7 (ix (gI s21 2)) (nI j) → ∀ s24 : zS, s24 = sI s23 2 ((gI s23 2) + 1) → mkM O ((gI s24 2)).toInt64 s24) ∧ ((¬ x9 = -1 → vp_in x9 14 ∧ (¬ (gF s15 3 (ix x9)) = nI j → vp_in x9 14 ∧ k17 (-(gF s15 4 (ix x9)))) ∧ ((gF s15 3 (ix x9)) = nI j → vp_in x9 14 ∧ k17 (gF s15 4 (ix x9)))) ∧ (x9 = -1 → k17 0))) ∧ (r14 = 0 → mkM O (0 : Int32).toInt64 s15))) ∧ ((¬ (1 : Int32) = 0 → (nI P.1 = 10 → k10 2) ∧ (¬ nI P.1 = 10 → (nI P.1 ≤ 0 → k10 0) ∧ (¬ nI P.1 ≤ 0 → (¬ x9 = -1 → k10 0) ∧ (x9 = -1 → k10 2)))) ∧ ((1 : Int32) = 0 → k10 1)) := by
        intro v8 hv8
        refine nm_e ?_
        by_cases c10 : P.1 = 10
        · rw [if_pos c10] at hO
          refine ⟨fun v => v = nI 2, fun v hv => ?_, nt_t (by decide) (br_t (by rw [c10]; rfl) rfl)⟩
          subst hv
          exact hbad 2 (by omega) (by omega) hO v8
        · rw [if_neg c10, if_neg c0] at hO
          have hn10 : ¬ nI P.1 = 10 := fun q => c10 ((nI_eq (b := 10) (by omega) (by omega)).mp q)
          rcases hv8 with ⟨c1, rfl⟩ | ⟨c1, rfl⟩
          · rw [if_neg (show ¬ nbt A P.2.2.1 j = nko A by omega)] at hO
            have hne : ¬ nI (nbt A P.2.2.1 j) = -1 := fun q => by
              have := congrArg Int32.toInt q
              rw [nI_toInt (by omega)] at this
              have e2 : (-1 : Int32).toInt = -1 := rfl
              omega
            have hjo : njo A P.2.2.1 j (nbt A P.2.2.1 j) = true := by
              rcases zfst_or (njo A P.2.2.1 j) (nko A) with ⟨r1, -⟩ | ⟨-, r2, -⟩
              · unfold nbt at c1
                omega
              · exact r2
            obtain ⟨-, hor⟩ := njo_iff.mp hjo
            generalize nbt A P.2.2.1 j = o at *
            obtain ⟨f1, f2, f3, -⟩ := h.1.2.2.1 o c1
            obtain ⟨r2, r3, r4, r5⟩ := h.2.2.1.2.2.2.1 o c1
            have vo : vp_in (nI o) 14 := vp_in_nI (by omega) (by omega)
            have io : ix (nI o) = o := ix_nI (by omega)
            refine ⟨fun v => v = 0, fun v hv => ?_, nt_t (by decide) (br_f hn10 (br_f hnle (nt_t hne rfl)))⟩
            subst hv
            refine W_go0 _ (nt_t (by decide) ⟨fun v => v = iI (if nfr A o = P.2.2.1 then ndf A o else - ndf A o), fun v hv => ?_, nt_t hne ⟨vo, ?_⟩⟩)
            · subst hv
              refine nm_e ⟨by show vp_in (gI s 2) 10; rw [p2]; exact vp_in_nI (by omega) (by omega), nm_e (nm_e ?_)⟩
              show mkM O (gI s 2 + 1).toInt64 (sI (sF (sI (sI s 5 0) 3 (gI s 3 + iI (if nfr A o = P.2.2.1 then ndf A o else - ndf A o))) 7 (ix (gI s 2)) (nI j)) 2 (gI s 2 + 1))
              rw [p2, ix_nI (by omega), nI_1, hO]
              have hS : zSm [2, 3, 5] [] [7] [] s (sI (sF (sI (sI s 5 0) 3 (gI s 3 + iI (if nfr A o = P.2.2.1 then ndf A o else - ndf A o))) 7 P.1 (nI j)) 2 (nI (P.1 + 1))) := (((((zSm.rf s).tI (by simp) _).tI (by simp) _).tF (by simp) _ _).tI (by simp) _)
              refine ⟨rfl, fun _ => nI_l64 (by omega), h.1, ⟨by show P.1 + 1 ≤ 10; omega, fun _ => ⟨b1, hj⟩, fun q => absurd (show P.1 + 1 = 0 from q) (by omega)⟩, h.2.2.1.sm hS ⟨by simp, by simp⟩ ⟨by simp, by simp, by simp, by simp, by simp, by simp, by simp⟩, rfl, fun _ => ⟨?_, ?_⟩, ?_⟩
              · rw [gF_sI, gF_sFs, if_neg (by omega)]
                exact g0
              · show gF (sI (sF (sI (sI s 5 0) 3 (gI s 3 + iI (if nfr A o = P.2.2.1 then ndf A o else - ndf A o))) 7 P.1 (nI j)) 2 (nI (P.1 + 1))) 7 (P.1 + 1 - 1) = nI j
                rw [gF_sI, gF_sFs, if_pos (by omega)]
              · show gI s 3 + _ = P.2.2.2 + _
                rw [p3]
            · show (¬ gF s 3 (ix (nI o)) = nI j → vp_in (nI o) 14 ∧ -(gF s 4 (ix (nI o))) = _) ∧ (gF s 3 (ix (nI o)) = nI j → vp_in (nI o) 14 ∧ gF s 4 (ix (nI o)) = _)
              rw [io, r3, r4]
              refine nt_c (fun d => ⟨vo, ?_⟩) (fun d => ⟨vo, ?_⟩)
              · have : ¬ nfr A o = P.2.2.1 := fun q => by
                  rcases hor with ⟨_, q2⟩ | ⟨q1, q2⟩
                  · exact d (by rw [q2])
                  · exact f3 (by rw [q, q2])
                rw [if_neg this, iI_neg]
              · have dj := (nI_eq (by omega) (by omega)).mp d
                have : nfr A o = P.2.2.1 := by
                  rcases hor with ⟨q1, _⟩ | ⟨q1, q2⟩
                  · exact q1
                  · exact absurd (by rw [q1, dj]) f3
                rw [if_pos this]
          · rw [if_pos c1] at hO
            refine ⟨fun v => v = nI 2, fun v hv => ?_, nt_t (by decide) (br_f hn10 (br_f hnle (nt_f rfl rfl)))⟩
            subst hv
            exact hbad 2 (by omega) (by omega) hO _
      refine ⟨fun v => (nbt A P.2.2.1 j < nko A ∧ v = nI (nbt A P.2.2.1 j)) ∨ (nbt A P.2.2.1 j = nko A ∧ v = -1), hcalc, br_f (by decide) (br_f hnle ?_)⟩
      rw [e1, ix_nI (by omega), g1]
      exact ⟨vp_in_nI (by omega) (by omega), W_joins h.1 h.2.2.1 (by omega) (by omega) _ (fun q => Or.inl ⟨q, rfl⟩) (fun q => Or.inr ⟨q, rfl⟩)⟩
  · rw [ho] at hO
    have hO : O = (1, 0, A, P) := hO
    refine ⟨fun v => v = -1, fun v hv => nm_r hv ⟨fun v => v = nI 1, fun v hv => ?_, nt_f rfl rfl⟩, br_t rfl rfl⟩
    subst hv
    exact hbad 1 (by omega) (by omega) hO _
end ZMGO

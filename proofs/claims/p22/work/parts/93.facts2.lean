/-! AN OBSERVATION MORE: parts, trees; the worst; cleaning -/
section ZFB
variable {A : zNt} {f t : Nat} {d w : Int}
theorem ad_fr {o : Nat} (h : o < nko A) : nfr (addOb A f t d w) o = nfr A o := zup_n _ _ (by omega)
theorem ad_to {o : Nat} (h : o < nko A) : nto (addOb A f t d w) o = nto A o := zup_n _ _ (by omega)
theorem ad_df {o : Nat} (h : o < nko A) : ndf (addOb A f t d w) o = ndf A o := zup_n _ _ (by omega)
theorem ad_wt {o : Nat} (h : o < nko A) : nwt (addOb A f t d w) o = nwt A o := zup_n _ _ (by omega)
theorem ad_fk : nfr (addOb A f t d w) (nko A) = f := zup_s _ _ _
theorem ad_tk : nto (addOb A f t d w) (nko A) = t := zup_s _ _ _
theorem ad_dk : ndf (addOb A f t d w) (nko A) = d := zup_s _ _ _
theorem ad_wk : nwt (addOb A f t d w) (nko A) = w := zup_s _ _ _
theorem cI_mono {s u : Nat} (q : cI A s u = true) : cI (addOb A f t d w) s u = true := cI_iff.mpr (fun C hC => cI_iff.mp q C (fun o ho hw => by
  have := hC o (Nat.lt_succ_of_lt ho) hw
  rw [ad_fr ho, ad_to ho] at this
  exact this))
theorem cI_add (hA : zok A) {s u : Nat} : cI (addOb A f t d w) s u = true ↔ cI A s u = true ∨ (cI A s f = true ∧ cI A t u = true) ∨ (cI A s t = true ∧ cI A f u = true) := by
  constructor
  · intro h
    have := cI_iff.mp h (fun v => cI A s v = true ∨ (cI A s f = true ∧ cI A t v = true) ∨ (cI A s t = true ∧ cI A f v = true)) (fun o ho hw => by
      by_cases e : o = nko A
      · subst e
        rw [ad_fk, ad_tk]
        constructor
        · rintro (q | ⟨q1, q2⟩ | ⟨q1, q2⟩)
          · exact Or.inr (Or.inl ⟨q, cI_rfl A t⟩)
          · exact Or.inr (Or.inl ⟨q1, cI_rfl A t⟩)
          · exact Or.inl q1
        · rintro (q | ⟨q1, q2⟩ | ⟨q1, q2⟩)
          · exact Or.inr (Or.inr ⟨q, cI_rfl A f⟩)
          · exact Or.inl q1
          · exact Or.inr (Or.inr ⟨q1, cI_rfl A f⟩)
      · have ho2 : o < nko A := by
          have : o < nko A + 1 := ho
          omega
        rw [ad_fr ho2, ad_to ho2]
        have hc := cI_edge ho2 hw
        rw [cI_congr hc s, cI_congr hc t, cI_congr hc f])
    exact this.mp (Or.inl (cI_rfl A s))
  · have hft : cI (addOb A f t d w) f t = true := by
      have := cI_edge (A := addOb A f t d w) (o := nko A) (Nat.lt_succ_self _) (hA.2.2.2.2.2 _ (Nat.le_refl _))
      rw [ad_fk, ad_tk] at this
      exact this
    rintro (q | ⟨q1, q2⟩ | ⟨q1, q2⟩)
    · exact cI_mono q
    · exact cI_trans (cI_mono q1) (cI_trans hft (cI_mono q2))
    · exact cI_trans (cI_mono q1) (cI_trans (by rw [cI_symm]; exact hft) (cI_mono q2))
theorem prt_add (hA : zok A) : nprt (addOb A f t d w) ≤ nprt A ∧ nprt A ≤ nprt (addOb A f t d w) + 1 := by
  constructor
  · refine zcn_sub (nnn A) (fun u _ h => ?_)
    rw [beq_iff_eq, lw_fix] at h ⊢
    intro j hj
    cases hh : cI A j u
    · rfl
    · have := h j hj
      rw [cI_mono hh] at this
      cases this
  · have h := zcn_but (p := fun u => lw (addOb A f t d w) u == u) (q := fun u => lw A u == u) (k := max (lw A f) (lw A t)) (nnn A) (fun u _ h => by
      rw [beq_iff_eq] at h ⊢
      by_cases e : lw (addOb A f t d w) u = u
      · exact Or.inl e
      · right
        obtain ⟨h1, h2, -⟩ := lw_spec (addOb A f t d w) u
        have hf := lw_fix.mp h
        rcases (cI_add hA).mp h2 with q | ⟨q1, q2⟩ | ⟨q1, q2⟩
        · rw [hf _ (by omega)] at q
          cases q
        · have e1 : lw A t = u := (lw_eq.mpr q2).trans h
          have e2 : lw A f = lw A (lw (addOb A f t d w) u) := (lw_eq.mpr q1).symm
          have e3 := (lw_spec A (lw (addOb A f t d w) u)).1
          omega
        · have e1 : lw A f = u := (lw_eq.mpr q2).trans h
          have e2 : lw A t = lw A (lw (addOb A f t d w) u) := (lw_eq.mpr q1).symm
          have e3 := (lw_spec A (lw (addOb A f t d w) u)).1
          omega)
    have h2 : zcn (fun u => lw A u == u) (nnn A) ≤ zcn (fun u => lw (addOb A f t d w) u == u) (nnn A) + 1 := by
      split at h <;> omega
    exact h2
theorem nEl_net {A B : zNt} {p : Nat → Bool} : ∀ {m o : Nat}, (∀ i, o ≤ i → i < o + m → nfr B i = nfr A i ∧ nto B i = nto A i ∧ ndf B i = ndf A i ∧ nwt B i = nwt A i) → nEl B p o m = nEl A p o m
  | 0, o, _ => rfl
  | m + 1, o, h => by
    obtain ⟨h1, h2, h3, h4⟩ := h o (Nat.le_refl _) (by omega)
    simp only [nEl]
    rw [h1, h2, h3, h4, nEl_net (fun i q1 q2 => h i (by omega) (by omega))]
theorem nEl_fil {A : zNt} {p : Nat → Bool} {C : Nat → Bool} : ∀ {m o : Nat}, (nEl A p o m).filter (fun e => C e.1) = nEl A (fun i => p i && C (nfr A i)) o m
  | 0, o => rfl
  | m + 1, o => by
    have ih := nEl_fil (A := A) (p := p) (C := C) (m := m) (o := o + 1)
    simp only [nEl]
    by_cases hp : p o = true
    · rw [if_pos hp]
      by_cases hc : C (nfr A o) = true
      · rw [List.filter_cons_of_pos (by simp [hc]), if_pos (by simp [hp, hc]), ih]
      · rw [List.filter_cons_of_neg (by simp [hc]), if_neg (by simp [hc]), ih]
    · rw [if_neg hp, if_neg (by simp [hp]), ih]
/-- more observations make more trees -/
theorem trees_add (hA : zok A) (hk : nko A < 14) (hf : f < nnn A) (ht : t < nnn A) (hne : f ≠ t) (hd : -9999 ≤ d ∧ d ≤ 9999) (hw : 1 ≤ w ∧ w ≤ 5) : pT A f 14 ≤ pT (addOb A f t d w) f 14 := by
  have hB := addOb_ok hA hk hf ht hne hd hw
  have hwk : nwd A (nko A) = false := hA.2.2.2.2.2 _ (Nat.le_refl _)
  have eB : pE (addOb A f t d w) f 14 = nEl A (pP (addOb A f t d w) f 14) 0 (nko A) ++ [(f, t, d, w)] := by
    have h := nEl_app (A := addOb A f t d w) (p := pP (addOb A f t d w) f 14) (nko A) 1 0
    have hp : pP (addOb A f t d w) f 14 (nko A) = true := by
      have e1 : (nko A != 14) = true := by simp; omega
      unfold pP
      rw [ad_fk, cI_rfl, e1]
      show (!nwd A (nko A) && true && true) = true
      rw [hwk]
      rfl
    have hnet : nEl (addOb A f t d w) (pP (addOb A f t d w) f 14) 0 (nko A) = nEl A (pP (addOb A f t d w) f 14) 0 (nko A) := nEl_net (fun i _ q => ⟨ad_fr (by omega), ad_to (by omega), ad_df (by omega), ad_wt (by omega)⟩)
    rw [Nat.zero_add, hnet] at h
    refine Eq.trans h ?_
    simp only [nEl]
    rw [if_pos hp, ad_fk, ad_tk, ad_dk, ad_wk]
  have hT : pT (addOb A f t d w) f 14 = TD (pS (addOb A f t d w) f) (nEl A (pP (addOb A f t d w) f 14) 0 (nko A)) (fun q => q) + w * TD (pS (addOb A f t d w) f) (nEl A (pP (addOb A f t d w) f 14) 0 (nko A)) (jl f t (fun q => q)) := by
    rw [← TD_id hB f 14, eB]
    have := TD_mid (pS (addOb A f t d w) f) (f, t, d, w) (nEl A (pP (addOb A f t d w) f 14) 0 (nko A)) [] (fun q => q)
    rw [if_neg hne, List.append_nil] at this
    exact this
  have hEin : ∀ e ∈ nEl A (pP (addOb A f t d w) f 14) 0 (nko A), e ∈ pE (addOb A f t d w) f 14 := fun e he => by
    rw [eB]
    exact List.mem_append_left _ he
  have hw0 : ∀ e ∈ nEl A (pP (addOb A f t d w) f 14) 0 (nko A), 0 < e.2.2.2 := fun e he => (pE_w hB e (hEin e he)).1
  have hok : ∀ e ∈ nEl A (pP (addOb A f t d w) f 14) 0 (nko A), e.1 ∈ pS (addOb A f t d w) f ∧ e.2.1 ∈ pS (addOb A f t d w) f := fun e he => pE_ok hB e (hEin e he)
  have n0 : 0 ≤ TD (pS (addOb A f t d w) f) (nEl A (pP (addOb A f t d w) f 14) 0 (nko A)) (fun q => q) := TD_nonneg _ hw0 _ _
  have n1 : 0 ≤ TD (pS (addOb A f t d w) f) (nEl A (pP (addOb A f t d w) f 14) 0 (nko A)) (jl f t (fun q => q)) := TD_nonneg _ hw0 _ _
  rw [hT]
  have hpp : ∀ o, o < nko A → pP (addOb A f t d w) f 14 o = ((!nwd A o && cI (addOb A f t d w) (nfr A o) f) && o != 14) := fun o ho => by
    unfold pP
    rw [ad_fr ho]
    rfl
  by_cases hc : cI A f t = true
  · have eI : ∀ s, cI (addOb A f t d w) s f = cI A s f := fun s => by
      rw [Bool.eq_iff_iff, cI_add hA]
      refine ⟨?_, Or.inl⟩
      rintro (q | ⟨q1, -⟩ | ⟨q1, -⟩)
      · exact q
      · exact q1
      · exact cI_trans q1 (by rw [cI_symm]; exact hc)
    have eS : pS (addOb A f t d w) f = pS A f := by
      unfold pS
      have : (fun s => cI (addOb A f t d w) s f) = (fun s => cI A s f) := funext eI
      rw [this]
      rfl
    have eE : nEl A (pP (addOb A f t d w) f 14) 0 (nko A) = pE A f 14 := nEl_congr (fun o _ q => by
      rw [hpp o (by omega), eI]
      rfl)
    have e1 : TD (pS (addOb A f t d w) f) (nEl A (pP (addOb A f t d w) f 14) 0 (nko A)) (fun q => q) = pT A f 14 := by
      rw [eS, eE]
      exact TD_id hA f 14
    rw [e1]
    have := Int.mul_nonneg (show 0 ≤ w by omega) n1
    omega
  · have hC : ∀ e ∈ nEl A (pP (addOb A f t d w) f 14) 0 (nko A), cI A e.1 f = cI A e.2.1 f := fun e he => by
      obtain ⟨i, h1, h2, h3, rfl⟩ := nEl_in he
      rw [hpp i (by omega)] at h3
      simp only [Bool.and_eq_true, Bool.not_eq_true'] at h3
      show cI A (nfr A i) f = cI A (nto A i) f
      rw [cI_symm A (nfr A i), cI_symm A (nto A i)]
      exact cI_congr (cI_edge (by omega) h3.1.1) f
    have hne2 : cI A f f ≠ cI A t f := fun q => by
      rw [cI_rfl, cI_symm] at q
      exact hc q.symm
    have fS : f ∈ pS (addOb A f t d w) f := pS_in.mpr ⟨hf, cI_rfl _ _⟩
    have tS : t ∈ pS (addOb A f t d w) f := pS_in.mpr ⟨ht, (cI_add hA).mpr (Or.inr (Or.inr ⟨cI_rfl _ _, cI_rfl _ _⟩))⟩
    have hprod := TD_prod (C := fun s => cI A s f) _ hok hC (fun q => q) (fun s u q => by rw [show s = u from q]) f t fS tS hne2
    have eI : ∀ s, cI (addOb A f t d w) s f = true ↔ cI A s f = true ∨ cI A s t = true := fun s => by
      rw [cI_add hA]
      constructor
      · rintro (q | ⟨q1, -⟩ | ⟨q1, -⟩)
        · exact Or.inl q
        · exact Or.inl q1
        · exact Or.inr q1
      · rintro (q | q)
        · exact Or.inl q
        · exact Or.inr (Or.inr ⟨q, cI_rfl _ _⟩)
    have eI2 : ∀ s, (cI A s f && cI (addOb A f t d w) s f) = cI A s f := fun s => by
      cases h : cI A s f
      · rfl
      · rw [(eI s).mpr (Or.inl h)]
        rfl
    have eI3 : ∀ s, (!cI A s f && cI (addOb A f t d w) s f) = cI A s t := fun s => by
      rw [Bool.eq_iff_iff]
      simp only [Bool.and_eq_true, Bool.not_eq_true']
      refine ⟨fun q => ?_, fun q => ⟨?_, (eI s).mpr (Or.inr q)⟩⟩
      · rcases (eI s).mp q.2 with h | h
        · rw [h] at q
          exact absurd q.1 (by decide)
        · exact h
      · cases h : cI A s f
        · rfl
        · exact absurd (cI_trans (by rw [cI_symm]; exact h) q) hc
    have eS1 : (pS (addOb A f t d w) f).filter (fun s => cI A s f) = pS A f := by
      unfold pS
      rw [List.filter_filter]
      have : (fun s => cI A s f && cI (addOb A f t d w) s f) = (fun s => cI A s f) := funext eI2
      rw [this]
      rfl
    have eS2 : (pS (addOb A f t d w) f).filter (fun s => !cI A s f) = pS A t := by
      unfold pS
      rw [List.filter_filter]
      have : (fun s => !cI A s f && cI (addOb A f t d w) s f) = (fun s => cI A s t) := funext eI3
      rw [this]
      rfl
    have eE1 : (nEl A (pP (addOb A f t d w) f 14) 0 (nko A)).filter (fun e => cI A e.1 f) = pE A f 14 := by
      rw [nEl_fil (C := fun s => cI A s f)]
      refine nEl_congr (fun o _ q => ?_)
      rw [hpp o (by omega)]
      have h2 := eI2 (nfr A o)
      unfold pP
      cases nwd A o <;> cases hx : cI A (nfr A o) f <;> cases hy : cI (addOb A f t d w) (nfr A o) f <;> simp_all
    have eE2 : (nEl A (pP (addOb A f t d w) f 14) 0 (nko A)).filter (fun e => !cI A e.1 f) = pE A t 14 := by
      rw [nEl_fil (C := fun s => !cI A s f)]
      refine nEl_congr (fun o _ q => ?_)
      rw [hpp o (by omega)]
      have h2 := eI3 (nfr A o)
      unfold pP
      rw [← h2]
      cases nwd A o <;> cases cI A (nfr A o) f <;> cases cI (addOb A f t d w) (nfr A o) f <;> cases (o != 14) <;> rfl
    rw [eS1, eS2, eE1, eE2, show TD (pS A f) (pE A f 14) (fun q => q) = pT A f 14 from TD_id hA f 14, show TD (pS A t) (pE A t 14) (fun q => q) = pT A t 14 from TD_id hA t 14] at hprod
    rw [hprod]
    have p1 := pT_pos hA hf
    have p2 := pT_pos hA ht
    have h1 := Int.mul_le_mul_of_nonneg_left (show (1 : Int) ≤ pT A t 14 by omega) (Int.le_of_lt p1)
    have h2 := Int.mul_le_mul_of_nonneg_right (show (1 : Int) ≤ w by omega) (show 0 ≤ pT A f 14 * pT A t 14 by omega)
    omega
end ZFB
section ZFC
/-- the worst -/
theorem aWst_most {A : zNt} (hA : zok A) : ∀ k, k ≤ nko A → ∀ o, o < k → nwd A o = false → aScr A o ≤ (aWst A k).2 ∧ (aScr A o = (aWst A k).2 → (aWst A k).1 ≤ (o : Int))
  | 0, _, o, h, _ => absurd h (Nat.not_lt_zero o)
  | k + 1, hk, o, ho, hw => by
    have hl := (aWst_le hA k (by omega)).1
    simp only [aWst]
    by_cases c : (if nwd A k = true then 0 else aScr A k) ≤ (aWst A k).2
    · rw [if_pos c]
      by_cases e : o = k
      · subst e
        rw [hw, if_neg (by decide)] at c
        exact ⟨c, fun _ => by omega⟩
      · exact aWst_most hA k (by omega) o (by omega) hw
    · rw [if_neg c]
      dsimp only
      by_cases e : o = k
      · subst e
        rw [hw, if_neg (by decide)]
        exact ⟨Int.le_refl _, fun _ => Int.le_refl _⟩
      · have ih := aWst_most hA k (by omega) o (by omega) hw
        refine ⟨by omega, fun q => by omega⟩
theorem zcn_at {p q : Nat → Bool} {w : Nat} (hp : p w = false) (hq : q w = true) (h : ∀ t, t ≠ w → p t = q t) : ∀ n, zcn q n = zcn p n + (if w < n then 1 else 0)
  | 0 => rfl
  | n + 1 => by
    have ih := zcn_at hp hq h n
    simp only [zcn]
    by_cases e : n = w
    · subst e
      rw [if_pos hq, if_neg (by rw [hp]; decide), ih, if_neg (by omega), if_pos (by omega)]
    · rw [h n e, ih]
      by_cases c : w < n
      · rw [if_pos c, if_pos (show w < n + 1 by omega)]
        split <;> omega
      · rw [if_neg c, if_neg (show ¬ w < n + 1 by omega)]
        split <;> omega
theorem zcn_none {p : Nat → Bool} : ∀ n, (∀ t, t < n → p t = false) → zcn p n = 0
  | 0, _ => rfl
  | n + 1, h => by
    simp only [zcn]
    rw [if_neg (by rw [h n (by omega)]; decide), zcn_none n (fun t ht => h t (by omega))]
def withG (A : zNt) (g : Nat → Bool) : zNt := (nnn A, nko A, nfr A, nto A, ndf A, nwt A, g, ntl A, nth A)
/-- cleaning: what is withdrawn by it, and where it ends -/
theorem aCl_spec {b : Int} : ∀ (F : Nat) (A : zNt), zok A → ninn A (nko A) ≤ F → ∃ g : Nat → Bool, (aCl b F A).2 = withG A g ∧ (∀ o, nwd A o = true → g o = true) ∧ (aCl b F A).1 = zcn (fun o => !nwd A o && g o) (nko A) ∧ zok (withG A g) ∧ ((aWst (withG A g) (nko A)).1 = -1 ∨ aScr (withG A g) (aWst (withG A g) (nko A)).1.toNat ≤ b)
  | 0, A, hA, h => by
    refine ⟨nwd A, rfl, fun _ q => q, ?_, hA, ?_⟩
    · exact (zcn_none _ (fun t _ => by cases nwd A t <;> rfl)).symm
    · rcases aWst_or (A := A) (nko A) with ⟨h1, -⟩ | ⟨o, h1, h2, h3, -⟩
      · exact Or.inl h1
      · have := zcn_lt (p := fun o => !nwd A o) h1 (by simp [h3])
        unfold ninn at h
        omega
  | F + 1, A, hA, h => by
    by_cases c : (aWst A (nko A)).1 = -1 ∨ aScr A (aWst A (nko A)).1.toNat ≤ b
    · refine ⟨nwd A, ?_, fun _ q => q, ?_, hA, c⟩
      · simp only [aCl]
        rw [if_pos c]
        rfl
      · simp only [aCl]
        rw [if_pos c]
        exact (zcn_none _ (fun t _ => by cases nwd A t <;> rfl)).symm
    · rcases aWst_or (A := A) (nko A) with ⟨h1, -⟩ | ⟨o, h1, h2, h3, -⟩
      · exact absurd (Or.inl h1) c
      · have hA' := setWd_ok hA h1 true
        have e : (aWst A (nko A)).1.toNat = o := by rw [h2]; rfl
        have hz := zcn_at (p := fun j => !nwd (setWd A o true) j) (q := fun j => !nwd A j) (w := o) (by show (!zup (nwd A) o true o) = false; rw [zup_s]; rfl) (by simp [h3]) (fun j hj => by show (!zup (nwd A) o true j) = _; rw [zup_n _ _ hj]) (nko A)
        rw [if_pos h1] at hz
        obtain ⟨g, g1, g2, g3, g4, g5⟩ := aCl_spec (b := b) F (setWd A o true) hA' (by
          unfold ninn at h ⊢
          show zcn (fun j => !nwd (setWd A o true) j) (nko A) ≤ F
          omega)
        have hgo : g o = true := g2 o (zup_s _ _ _)
        refine ⟨g, ?_, fun j hj => ?_, ?_, g4, g5⟩
        · simp only [aCl]
          rw [if_neg c, e]
          exact g1
        · refine g2 j ?_
          show zup (nwd A) o true j = true
          unfold zup
          split
          · rfl
          · exact hj
        · simp only [aCl]
          rw [if_neg c, e]
          dsimp only
          rw [g3]
          have hz2 := zcn_at (p := fun j => !nwd (setWd A o true) j && g j) (q := fun j => !nwd A j && g j) (w := o) (by show (!zup (nwd A) o true o && g o) = false; rw [zup_s]; rfl) (by simp [h3, hgo]) (fun j hj => by show (!zup (nwd A) o true j && g j) = _; rw [zup_n _ _ hj]) (nko A)
          rw [if_pos h1] at hz2
          exact hz2.symm
theorem aCl_again {b : Int} {A : zNt} (h : (aWst A (nko A)).1 = -1 ∨ aScr A (aWst A (nko A)).1.toNat ≤ b) (F : Nat) : aCl b (F + 1) A = (0, A) := by
  simp only [aCl]
  rw [if_pos h]
end ZFC

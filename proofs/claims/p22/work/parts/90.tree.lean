/-! TREES ONCE MORE: an observation more or less; a net of two pieces; how much a link can weigh; how many observations a tree has -/
section ZTR
noncomputable def zdc (p : Prop) : Bool := @decide p (Classical.propDecidable p)
theorem zdc_iff {p : Prop} : zdc p = true ↔ p := @decide_eq_true_iff p (Classical.propDecidable p)
theorem zdc_eq {p q : Prop} : zdc p = zdc q ↔ (p ↔ q) := by
  rw [Bool.eq_iff_iff, zdc_iff, zdc_iff]
theorem TD_cons (S : List Nat) (e : zE) (E : List zE) (lab : Nat → Nat) : TD S (e :: E) lab = TD S E lab + (if lab e.1 = lab e.2.1 then 0 else e.2.2.2 * TD S E (jl e.1 e.2.1 lab)) := by
  show TS S (fun _ => 1) (e :: E) lab (fun _ => 0) = _
  simp only [TS]
  rw [TD_eq S E (jl e.1 e.2.1 lab) (jr e.1 e.2.1 e.2.2.1 lab (fun _ => 0)) (fun _ => 0)]
theorem jl_comm {lab : Nat → Nat} {e e' f f' : Nat} (h1 : lab e ≠ lab e') (h2 : lab f ≠ lab f') (h3 : jl f f' lab e ≠ jl f f' lab e') : ∀ s u, jl e e' (jl f f' lab) s = jl e e' (jl f f' lab) u ↔ jl f f' (jl e e' lab) s = jl f f' (jl e e' lab) u := by
  intro s u
  simp only [jl] at h3 ⊢
  grind
theorem jl_sym {lab : Nat → Nat} {e e' f f' : Nat} (h1 : lab e ≠ lab e') (h2 : lab f ≠ lab f') : jl f f' lab e = jl f f' lab e' ↔ jl e e' lab f = jl e e' lab f' := by
  simp only [jl]
  grind
theorem TD_mid (S : List Nat) (e : zE) (E1 E2 : List zE) (lab : Nat → Nat) : TD S (E1 ++ e :: E2) lab = TD S (E1 ++ E2) lab + (if lab e.1 = lab e.2.1 then 0 else e.2.2.2 * TD S (E1 ++ E2) (jl e.1 e.2.1 lab)) := by
  induction E1 generalizing lab with
  | nil => exact TD_cons S e E2 lab
  | cons f E1 ih =>
    have k1 : TD S (f :: E1 ++ e :: E2) lab = _ := TD_cons S f (E1 ++ e :: E2) lab
    have k2 : TD S (f :: E1 ++ E2) lab = _ := TD_cons S f (E1 ++ E2) lab
    have k3 : TD S (f :: E1 ++ E2) (jl e.1 e.2.1 lab) = _ := TD_cons S f (E1 ++ E2) (jl e.1 e.2.1 lab)
    have i1 := ih lab
    have i2 := ih (jl f.1 f.2.1 lab)
    rw [k1, k2, k3, i1, i2]
    by_cases c : lab e.1 = lab e.2.1
    · have c2 : jl f.1 f.2.1 lab e.1 = jl f.1 f.2.1 lab e.2.1 := by simp only [jl, c]
      rw [if_pos c, if_pos c, if_pos c2]
      simp only [Int.add_zero]
    · rw [if_neg c, if_neg c]
      by_cases d : lab f.1 = lab f.2.1
      · have d2 : jl e.1 e.2.1 lab f.1 = jl e.1 e.2.1 lab f.2.1 := by simp only [jl, d]
        rw [if_pos d, if_pos d, if_pos d2]
        simp only [Int.add_zero]
      · rw [if_neg d, if_neg d]
        by_cases g : jl f.1 f.2.1 lab e.1 = jl f.1 f.2.1 lab e.2.1
        · rw [if_pos g, if_pos ((jl_sym c d).mp g)]
          simp only [Int.add_zero]
          omega
        · rw [if_neg g, if_neg (fun q => g ((jl_sym c d).mpr q)), TD_zeq S (E1 ++ E2) (jl_comm c d g)]
          generalize TD S (E1 ++ E2) (jl f.1 f.2.1 (jl e.1 e.2.1 lab)) = Z
          rw [Int.mul_add, Int.mul_add, Int.mul_left_comm]
          omega
/-- two colours, each piece of one -/
theorem zc_col {S : List Nat} {lab : Nat → Nat} {C : Nat → Bool} (hl : ∀ s t, lab s = lab t → C s = C t) {a b : Nat} (ha : a ∈ S) (hb : b ∈ S) (hab : C a ≠ C b) : zconn S (jl a b lab) ↔ ∀ s ∈ S, ∀ t ∈ S, C s = C t → lab s = lab t := by
  constructor
  · intro h s hs t ht hc
    have h1 := h s hs t ht
    unfold jl at h1
    by_cases c1 : lab s = lab b <;> by_cases c2 : lab t = lab b
    · exact c1.trans c2.symm
    · rw [if_pos c1, if_neg c2] at h1
      exact absurd ((hl _ _ h1).trans (hc.symm.trans (hl _ _ c1))) hab
    · rw [if_neg c1, if_pos c2] at h1
      exact absurd ((hl _ _ h1).symm.trans (hc.trans (hl _ _ c2))) hab
    · rw [if_neg c1, if_neg c2] at h1
      exact h1
  · intro h
    have k : ∀ u ∈ S, jl a b lab u = lab a := fun u hu => by
      unfold jl
      by_cases c : C u = C b
      · rw [if_pos (h u hu b hb c)]
      · have c2 : C u = C a := by
          revert c hab
          cases C u <;> cases C a <;> cases C b <;> simp
        rw [if_neg (fun q => c (hl _ _ q)), h u hu a ha c2]
    intro s hs t ht
    rw [k s hs, k t ht]
theorem jl_col {lab : Nat → Nat} {C : Nat → Bool} (hl : ∀ s t, lab s = lab t → C s = C t) {a b s t : Nat} (hab : C a ≠ C b) (hc : C s = C t) : jl a b lab s = jl a b lab t ↔ lab s = lab t := by
  refine ⟨fun h1 => ?_, fun h => by simp only [jl, h]⟩
  unfold jl at h1
  by_cases c1 : lab s = lab b <;> by_cases c2 : lab t = lab b
  · exact c1.trans c2.symm
  · rw [if_pos c1, if_neg c2] at h1
    exact absurd ((hl _ _ h1).trans (hc.symm.trans (hl _ _ c1))) hab
  · rw [if_neg c1, if_pos c2] at h1
    exact absurd ((hl _ _ h1).symm.trans (hc.trans (hl _ _ c2))) hab
  · rw [if_neg c1, if_neg c2] at h1
    exact h1
theorem jl_mono {lab : Nat → Nat} {C : Nat → Bool} (hl : ∀ s t, lab s = lab t → C s = C t) {a b : Nat} (hab : C a = C b) : ∀ s t, jl a b lab s = jl a b lab t → C s = C t := by
  intro s t q
  unfold jl at q
  by_cases c1 : lab s = lab b <;> by_cases c2 : lab t = lab b
  · exact (hl _ _ c1).trans (hl _ _ c2).symm
  · rw [if_pos c1, if_neg c2] at q
    exact (hl _ _ c1).trans (hab.symm.trans (hl _ _ q))
  · rw [if_neg c1, if_pos c2] at q
    exact (hl _ _ q).trans (hab.trans (hl _ _ c2).symm)
  · rw [if_neg c1, if_neg c2] at q
    exact hl _ _ q
/-- the trees of two pieces and a link between them -/
theorem TD_prod {C : Nat → Bool} {S : List Nat} : ∀ (E : List zE), (∀ e ∈ E, e.1 ∈ S ∧ e.2.1 ∈ S) → (∀ e ∈ E, C e.1 = C e.2.1) → ∀ (lab : Nat → Nat), (∀ s t, lab s = lab t → C s = C t) → ∀ (a b : Nat), a ∈ S → b ∈ S → C a ≠ C b →
    TD S E (jl a b lab) = TD (S.filter C) (E.filter (fun e => C e.1)) lab * TD (S.filter (fun s => !C s)) (E.filter (fun e => !C e.1)) lab
  | [], _, _, lab, hl, a, b, ha, hb, hab => by
    simp only [List.filter_nil, TD, TS]
    have hz := zc_col hl ha hb hab
    by_cases p1 : zconn (S.filter C) lab
    · by_cases p2 : zconn (S.filter (fun s => !C s)) lab
      · rw [if_pos p1, if_pos p2, if_pos (hz.mpr (fun s hs t ht hc => by
          cases hC : C s
          · exact p2 s (List.mem_filter.mpr ⟨hs, by simp [hC]⟩) t (List.mem_filter.mpr ⟨ht, by simp [← hc, hC]⟩)
          · exact p1 s (List.mem_filter.mpr ⟨hs, hC⟩) t (List.mem_filter.mpr ⟨ht, by rw [← hc]; exact hC⟩)))]
        rfl
      · rw [if_neg p2, if_neg (fun q => p2 (fun s hs t ht => by
          have h1 := List.mem_filter.mp hs
          have h2 := List.mem_filter.mp ht
          refine hz.mp q s h1.1 t h2.1 ?_
          have e1 : C s = false := by simpa using h1.2
          have e2 : C t = false := by simpa using h2.2
          rw [e1, e2]))]
        exact (Int.mul_zero _).symm
    · rw [if_neg p1, if_neg (fun q => p1 (fun s hs t ht => by
        have h1 := List.mem_filter.mp hs
        have h2 := List.mem_filter.mp ht
        exact hz.mp q s h1.1 t h2.1 (by rw [h1.2, h2.2])))]
      exact (Int.zero_mul _).symm
  | e :: E, hE, hC, lab, hl, a, b, ha, hb, hab => by
    have ih := TD_prod E (fun e he => hE e (List.mem_cons_of_mem _ he)) (fun e he => hC e (List.mem_cons_of_mem _ he))
    have hee := hC e List.mem_cons_self
    obtain ⟨hs1, hs2⟩ := hE e List.mem_cons_self
    have i0 := ih lab hl a b ha hb hab
    have hlab : lab a ≠ lab b := fun q => hab (hl _ _ q)
    have hcol := jl_col hl hab hee
    rw [TD_cons, i0]
    by_cases c : lab e.1 = lab e.2.1
    · rw [if_pos (hcol.mpr c)]
      cases hc : C e.1
      · rw [List.filter_cons_of_neg (by simp [hc]), List.filter_cons_of_pos (by simp [hc]), TD_cons, if_pos c]
        simp only [Int.add_zero]
      · rw [List.filter_cons_of_pos (by simp [hc]), List.filter_cons_of_neg (by simp [hc]), TD_cons, if_pos c]
        simp only [Int.add_zero]
    · rw [if_neg (fun q => c (hcol.mp q))]
      have hl1 := jl_mono hl hee
      have i1 := ih (jl e.1 e.2.1 lab) hl1 a b ha hb hab
      rw [TD_zeq S E (jl_comm c hlab (fun q => c (hcol.mp q))), i1]
      cases hc : C e.1
      · rw [List.filter_cons_of_neg (by simp [hc]), List.filter_cons_of_pos (by simp [hc]), TD_cons, if_neg c]
        have hy : TD (S.filter C) (E.filter (fun e => C e.1)) (jl e.1 e.2.1 lab) = TD (S.filter C) (E.filter (fun e => C e.1)) lab := by
          refine TS_S (fun _ _ _ => rfl) _ (fun e' he' => ?_) _ _ _ _ (fun s hs => ⟨?_, rfl⟩)
          · have h1 := List.mem_filter.mp he'
            have h2 := hE e' (List.mem_cons_of_mem _ h1.1)
            have h3 := hC e' (List.mem_cons_of_mem _ h1.1)
            exact ⟨List.mem_filter.mpr ⟨h2.1, h1.2⟩, List.mem_filter.mpr ⟨h2.2, by rw [← h3]; exact h1.2⟩⟩
          · have h1 := (List.mem_filter.mp hs).2
            unfold jl
            rw [if_neg (fun q => by rw [hl _ _ q, ← hee, hc] at h1; cases h1)]
        rw [hy]
        generalize TD (S.filter C) (E.filter (fun e => C e.1)) lab = X
        rw [Int.mul_add, Int.mul_left_comm]
      · rw [List.filter_cons_of_pos (by simp [hc]), List.filter_cons_of_neg (by simp [hc]), TD_cons, if_neg c]
        have hy : TD (S.filter (fun s => !C s)) (E.filter (fun e => !C e.1)) (jl e.1 e.2.1 lab) = TD (S.filter (fun s => !C s)) (E.filter (fun e => !C e.1)) lab := by
          refine TS_S (fun _ _ _ => rfl) _ (fun e' he' => ?_) _ _ _ _ (fun s hs => ⟨?_, rfl⟩)
          · have h1 := List.mem_filter.mp he'
            have h2 := hE e' (List.mem_cons_of_mem _ h1.1)
            have h3 := hC e' (List.mem_cons_of_mem _ h1.1)
            exact ⟨List.mem_filter.mpr ⟨h2.1, h1.2⟩, List.mem_filter.mpr ⟨h2.2, by rw [← h3]; exact h1.2⟩⟩
          · have h1 := (List.mem_filter.mp hs).2
            unfold jl
            rw [if_neg (fun q => by rw [hl _ _ q, ← hee, hc] at h1; cases h1)]
        rw [hy, Int.add_mul, Int.mul_assoc]
/-- what two pieces weigh with a link stands in no matter which link it is -/
theorem TD_bridge {C : Nat → Bool} {S : List Nat} {E : List zE} (hE : ∀ e ∈ E, e.1 ∈ S ∧ e.2.1 ∈ S) (hC : ∀ e ∈ E, C e.1 = C e.2.1) {lab : Nat → Nat} (hl : ∀ s t, lab s = lab t → C s = C t) {a b c d : Nat} (ha : a ∈ S) (hb : b ∈ S) (hab : C a ≠ C b) (hc : c ∈ S) (hd : d ∈ S) (hcd : C c ≠ C d) : TD S E (jl a b lab) = TD S E (jl c d lab) := by
  rw [TD_prod E hE hC lab hl a b ha hb hab, TD_prod E hE hC lab hl c d hc hd hcd]
theorem TD_split {S : List Nat} {E : List zE} (hw : ∀ e ∈ E, 0 < e.2.2.2) {lab : Nat → Nat} (h : TD S E lab = 0) : ∃ C : Nat → Bool, (∀ s t, lab s = lab t → C s = C t) ∧ (∀ e ∈ E, C e.1 = C e.2.1) ∧ ∃ s ∈ S, ∃ t ∈ S, C s ≠ C t := by
  apply Classical.byContradiction
  intro hno
  have h0 : 0 < TS S (fun _ => 1) E lab (fun _ => 0) := TD_pos E hw lab _ (fun C h1 h2 s hs t ht => by
    apply Classical.byContradiction
    intro hst
    exact hno ⟨fun u => zdc (C u), fun s t q => zdc_eq.mpr (h1 s t q), fun e he => zdc_eq.mpr (h2 e he), s, hs, t, ht, fun q => hst (zdc_eq.mp q)⟩)
  have h1 : TS S (fun _ => 1) E lab (fun _ => 0) = 0 := h
  omega
/-- a link weighs at most so many times what it links -/
theorem TD_res {S : List Nat} : ∀ (E : List zE), (∀ e ∈ E, e.1 ∈ S ∧ e.2.1 ∈ S) → (∀ e ∈ E, 0 < e.2.2.2) → ∀ (lab : Nat → Nat) (f t : Nat), f ∈ S → t ∈ S → lab f ≠ lab t → 0 < TD S E lab → TD S E (jl f t lab) ≤ (E.length : Int) * TD S E lab
  | [], _, _, lab, f, t, hf, ht, hne, h => by
    simp only [TD, TS] at h
    by_cases c : zconn S lab
    · exact absurd (c f hf t ht) hne
    · rw [if_neg c] at h
      omega
  | e :: E, hE, hw, lab, f, t, hf, ht, hne, h => by
    have hE2 : ∀ e ∈ E, e.1 ∈ S ∧ e.2.1 ∈ S := fun e he => hE e (List.mem_cons_of_mem _ he)
    have hw2 : ∀ e ∈ E, 0 < e.2.2.2 := fun e he => hw e (List.mem_cons_of_mem _ he)
    have ih := TD_res E hE2 hw2
    have h0 := hw e List.mem_cons_self
    obtain ⟨hs1, hs2⟩ := hE e List.mem_cons_self
    have n0 : 0 ≤ TD S E lab := TD_nonneg E hw2 lab _
    have n1 : 0 ≤ TD S E (jl e.1 e.2.1 lab) := TD_nonneg E hw2 _ _
    have hlen : ((e :: E).length : Int) = (E.length : Int) + 1 := by simp
    rw [TD_cons] at h ⊢
    rw [TD_cons, hlen]
    by_cases c : lab e.1 = lab e.2.1
    · have c2 : jl f t lab e.1 = jl f t lab e.2.1 := by simp only [jl, c]
      rw [if_pos c] at h ⊢
      rw [if_pos c2]
      have := ih lab f t hf ht hne (by omega)
      rw [Int.add_mul]
      simp only [Int.add_zero]
      omega
    · rw [if_neg c] at h ⊢
      have p1 : 0 < TD S E (jl e.1 e.2.1 lab) := by
        by_cases z : TD S E lab = 0
        · by_cases z1 : TD S E (jl e.1 e.2.1 lab) = 0
          · rw [z, z1] at h
            omega
          · omega
        · exact TD_mono hw2 (fun s t q => by simp only [jl, q]) z
      have u1 : (if jl f t lab e.1 = jl f t lab e.2.1 then 0 else e.2.2.2 * TD S E (jl e.1 e.2.1 (jl f t lab))) ≤ e.2.2.2 * ((E.length : Int) * TD S E (jl e.1 e.2.1 lab)) := by
        have hm := Int.mul_nonneg (Int.le_of_lt h0) (Int.mul_nonneg (Int.natCast_nonneg E.length) n1)
        split
        · exact hm
        · rename_i g
          rw [TD_zeq S E (jl_comm c hne g)]
          exact Int.mul_le_mul_of_nonneg_left (ih (jl e.1 e.2.1 lab) f t hf ht (fun q => g ((jl_sym c hne).mpr q)) p1) (Int.le_of_lt h0)
      have u0 : TD S E (jl f t lab) ≤ (E.length : Int) * TD S E lab + TD S E (jl e.1 e.2.1 lab) := by
        by_cases z : TD S E lab = 0
        · obtain ⟨C, hC1, hC2, s, hs, u, hu, hsu⟩ := TD_split hw2 z
          have hCe : C e.1 ≠ C e.2.1 := fun q => by
            have := TD_conn E C hC2 (jl e.1 e.2.1 lab) (fun _ => 0) (jl_mono hC1 q) (Int.ne_of_gt p1) s hs u hu
            exact hsu this
          rw [z, Int.mul_zero, Int.zero_add]
          by_cases hft : C f = C t
          · have hz : TD S E (jl f t lab) = 0 := by
              apply Classical.byContradiction
              intro q
              exact hsu (TD_conn E C hC2 (jl f t lab) (fun _ => 0) (jl_mono hC1 hft) q s hs u hu)
            omega
          · rw [TD_bridge hE2 hC2 hC1 hf ht hft hs1 hs2 hCe]
            exact Int.le_refl _
        · have := ih lab f t hf ht hne (by omega)
          omega
      generalize TD S E (jl f t lab) = U0 at u0 ⊢
      generalize (if jl f t lab e.1 = jl f t lab e.2.1 then 0 else e.2.2.2 * TD S E (jl e.1 e.2.1 (jl f t lab))) = U1 at u1 ⊢
      generalize TD S E (jl e.1 e.2.1 lab) = T1 at u0 u1 n1 p1 ⊢
      generalize TD S E lab = T0 at u0 n0 ⊢
      have h3 : T1 ≤ e.2.2.2 * T1 := by
        have := Int.mul_le_mul_of_nonneg_right (show (1 : Int) ≤ e.2.2.2 by omega) n1
        omega
      have e9 : ((E.length : Int) + 1) * (T0 + e.2.2.2 * T1) = (E.length : Int) * T0 + e.2.2.2 * ((E.length : Int) * T1) + T0 + e.2.2.2 * T1 := by grind
      rw [e9]
      omega
end ZTR

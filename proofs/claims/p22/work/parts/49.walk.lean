/-! THE CLASS GOES THROUGH ALL TREES -/
section ZWALK
theorem TS_S {S : List Nat} {v : (Nat → Int) → Int} (hv : ∀ r r2 : Nat → Int, (∀ s ∈ S, r s = r2 s) → v r = v r2) : ∀ (E : List zE) (_ : ∀ e ∈ E, e.1 ∈ S ∧ e.2.1 ∈ S) (lab lab2 : Nat → Nat) (ris ris2 : Nat → Int), (∀ s ∈ S, lab s = lab2 s ∧ ris s = ris2 s) → TS S v E lab ris = TS S v E lab2 ris2
  | [], _, lab, lab2, ris, ris2, h => by
    simp only [TS]
    have e : zconn S lab ↔ zconn S lab2 := ⟨fun q s hs t ht => by rw [← (h s hs).1, ← (h t ht).1]; exact q s hs t ht, fun q s hs t ht => by rw [(h s hs).1, (h t ht).1]; exact q s hs t ht⟩
    rw [hv ris ris2 (fun s hs => (h s hs).2)]
    exact zite e
  | e :: E, hE, lab, lab2, ris, ris2, h => by
    obtain ⟨h1, h2⟩ := hE e List.mem_cons_self
    have ih := TS_S hv E (fun e he => hE e (List.mem_cons_of_mem _ he))
    simp only [TS]
    rw [ih lab lab2 ris ris2 h, (h _ h1).1, (h _ h2).1, ih (jl e.1 e.2.1 lab) (jl e.1 e.2.1 lab2) (jr e.1 e.2.1 e.2.2.1 lab ris) (jr e.1 e.2.1 e.2.2.1 lab2 ris2) (fun s hs => by
      unfold jl jr
      rw [(h s hs).1, (h s hs).2, (h _ h1).1, (h _ h1).2, (h _ h2).1, (h _ h2).2]
      exact ⟨rfl, rfl⟩)]
theorem TS_conn {S : List Nat} {v : (Nat → Int) → Int} : ∀ (E : List zE) (_ : ∀ e ∈ E, e.1 ∈ S ∧ e.2.1 ∈ S) (lab : Nat → Nat) (ris : Nat → Int), zconn S lab → TS S v E lab ris = v ris
  | [], _, lab, ris, h => by
    simp only [TS]
    rw [if_pos h]
  | e :: E, hE, lab, ris, h => by
    obtain ⟨h1, h2⟩ := hE e List.mem_cons_self
    simp only [TS]
    rw [TS_conn E (fun e he => hE e (List.mem_cons_of_mem _ he)) lab ris h, if_pos (h _ h1 _ h2)]
    omega
theorem zcnt_one {S : List Nat} {N : Nat} {lab : Nat → Nat} (hl : ∀ s ∈ S, lab s < N) (h : zcnt S N lab = 1) : zconn S lab := by
  intro s hs t ht
  by_cases e : lab s = lab t
  · exact e
  · have p1 := sN_pick (fun _ => 1) (lab s) N
    have p2 := sN_pick (fun _ => 1) (lab t) N
    rw [if_pos (hl s hs)] at p1
    rw [if_pos (hl t ht)] at p2
    have : sN (fun j => zd j (lab s) * 1 + zd j (lab t) * 1) N ≤ zcnt S N lab := by
      refine sN_le N (fun q _ => ?_)
      have hn := zat_nonneg S lab q
      unfold zd
      by_cases c1 : lab s = q
      · have c2 : ¬ lab t = q := fun r => e (by rw [c1, r])
        rw [if_pos c1, if_neg c2]
        unfold zat
        rw [if_pos ⟨s, hs, c1⟩]
        omega
      · rw [if_neg c1]
        by_cases c2 : lab t = q
        · rw [if_pos c2]
          unfold zat
          rw [if_pos ⟨t, ht, c2⟩]
          omega
        · rw [if_neg c2]
          omega
    rw [sN_add, p1, p2, h] at this
    omega
/-- the trees that have the observation x, or (b) all -/
def TH (S : List Nat) (A : zNt) (p : Nat → Bool) (x : Nat) (b : Bool) (i m : Nat) (lab : Nat → Nat) : Int :=
  if b = true then TS S (fun _ => 1) (nEl A p i m) lab (fun _ => 0) else TS S (fun _ => 1) (nEl A p i m) lab (fun _ => 0) - TS S (fun _ => 1) (nEl A (fun j => p j && j != x) i m) lab (fun _ => 0)
theorem TH_skip {S : List Nat} {A : zNt} {p : Nat → Bool} {x : Nat} {b : Bool} {i m : Nat} {lab : Nat → Nat} (h : p i = false ∨ lab (nfr A i) = lab (nto A i)) : TH S A p x b i (m + 1) lab = TH S A p x b (i + 1) m lab := by
  have e : ∀ q : Nat → Bool, (q i = false ∨ lab (nfr A i) = lab (nto A i)) → TS S (fun _ => 1) (nEl A q i (m + 1)) lab (fun _ => 0) = TS S (fun _ => 1) (nEl A q (i + 1) m) lab (fun _ => 0) := fun q hq => by
    simp only [nEl]
    by_cases c : q i = true
    · rw [if_pos c]
      simp only [TS]
      rcases hq with r | r
      · rw [r] at c
        cases c
      · rw [if_pos r]
        omega
    · rw [if_neg c]
  unfold TH
  rw [e p h, e (fun j => p j && j != x) (by
    rcases h with h | h
    · exact Or.inl (by simp [h])
    · exact Or.inr h)]
theorem TH_take {S : List Nat} {A : zNt} {p : Nat → Bool} {x : Nat} {b : Bool} {i m : Nat} {lab : Nat → Nat} (h : p i = true) (hl : ¬ lab (nfr A i) = lab (nto A i)) :
    TH S A p x b i (m + 1) lab = TH S A p x b (i + 1) m lab + nwt A i * TH S A p x (b || i == x) (i + 1) m (jl (nfr A i) (nto A i) lab) := by
  have e : ∀ q : Nat → Bool, q i = true → TS S (fun _ => 1) (nEl A q i (m + 1)) lab (fun _ => 0) = TS S (fun _ => 1) (nEl A q (i + 1) m) lab (fun _ => 0) + nwt A i * TS S (fun _ => 1) (nEl A q (i + 1) m) (jl (nfr A i) (nto A i) lab) (fun _ => 0) := fun q hq => by
    simp only [nEl]
    rw [if_pos hq]
    simp only [TS]
    rw [if_neg hl, TD_eq S (nEl A q (i + 1) m) (jl (nfr A i) (nto A i) lab) _ (fun _ => 0)]
  unfold TH
  rw [e p h]
  by_cases c : b = true
  · rw [if_pos c, if_pos c, if_pos (by simp [c])]
  · rw [if_neg c, if_neg c]
    by_cases e2 : i = x
    · subst e2
      rw [if_pos (by simp)]
      have hc : nEl A (fun j => p j && j != i) i (m + 1) = nEl A (fun j => p j && j != i) (i + 1) m := by
        simp only [nEl]
        rw [if_neg (by simp)]
      rw [hc]
      omega
    · rw [if_neg (by simp [c, e2]), e (fun j => p j && j != x) (by simp [h, e2]), Int.mul_sub]
      omega
/-- a level of the walk: pieces, rises -/
def PW (A : zNt) (i : Nat) (lab : Nat → Nat) (ris : Nat → Int) (s : zS) : Prop := ∀ q, q < nnn A → gF s (9 + i) q = nI (lab q) ∧ gF s (15 + i) q = iI (ris q)
def zGr (i : Nat) (s s' : zS) : Prop := zSm [] [1, 2, 3] [9, 10, 11, 12, 13, 14, 15, 16, 17, 18, 19, 20] [] s s' ∧ ∀ j, j ≤ i → gF s' (9 + j) = gF s (9 + j) ∧ gF s' (15 + j) = gF s (15 + j)
theorem zGr.tr {i : Nat} {s s' s2 : zS} (h : zGr i s s') (h2 : zGr i s' s2) : zGr i s s2 := ⟨h.1.tr h2.1, fun j hj => ⟨(h2.2 j hj).1.trans (h.2 j hj).1, (h2.2 j hj).2.trans (h.2 j hj).2⟩⟩
theorem zGr.rf (i : Nat) (s : zS) : zGr i s s := ⟨zSm.rf s, fun _ _ => ⟨rfl, rfl⟩⟩
theorem zGr.dn {i k : Nat} {s s' : zS} (h : zGr k s s') (hik : i ≤ k) : zGr i s s' := ⟨h.1, fun j hj => h.2 j (by omega)⟩
theorem W_joinPieces {A : zNt} (hA : zok A) {s : zS} (hR : RX A s) {i o : Nat} (hi : i < 5) (ho : o < nko A) {lab : Nat → Nat} {ris : Nat → Int} (hP : PW A i lab ris s) (hl6 : ∀ q, q < nnn A → lab q < 6) (Q : zS → Prop)
    (hQ : ∀ s', zGr i s s' → (∀ j, gJ s' j = gJ s j) → PW A (i + 1) (jl (nfr A o) (nto A o) lab) (jr (nfr A o) (nto A o) (ndf A o) lab ris) s' → Q s') : W_X3_joinPieces s (nI i) (nI o) Q := by
  have hn := hA.1
  have hk := hA.2.1
  obtain ⟨f1, f2, -⟩ := hA.2.2.1 o ho
  obtain ⟨e3, e4, e5, e6⟩ := hR.1.2.2.2.1 o ho
  have ii : ix (nI i) = i := ix_nI (by omega)
  have ii1 : ix (nI i + 1) = i + 1 := by rw [nI_1]; exact ix_nI (by omega)
  have io : ix (nI o) = o := ix_nI (by omega)
  have vi : vp_in (nI i) 6 := vp_in_nI (by omega) (by omega)
  have vi1 : vp_in (nI i + 1) 6 := by rw [nI_1]; exact vp_in_nI (by omega) (by omega)
  have vo : vp_in (nI o) 14 := vp_in_nI (by omega) (by omega)
  have vf : vp_in (nI (nfr A o)) 6 := vp_in_nI (by omega) (by omega)
  have vt : vp_in (nI (nto A o)) 6 := vp_in_nI (by omega) (by omega)
  have jf : ix (nI (nfr A o)) = nfr A o := ix_nI (by omega)
  have jt : ix (nI (nto A o)) = nto A o := ix_nI (by omega)
  refine ⟨vo, nm_r (e' := nI (nfr A o)) (by rw [io, e3]) ⟨vo, nm_r (e' := nI (nto A o)) (by rw [io, e4]) ⟨vi, vf, vo, vi, vt, nm_r (e' := iI (ris (nfr A o) + ndf A o - ris (nto A o))) ?_ (nm_e ?_)⟩⟩⟩
  · rw [ii, io, jf, jt, (hP _ f1).2, (hP _ f2).2, e5, iI_add, iI_sub]
  obtain ⟨I, eI⟩ : ∃ I : Nat → zS → Prop, I = fun c s' => zGr i s s' ∧ (∀ j, gJ s' j = gJ s j) ∧ ∀ q, q < c → gF s' (9 + (i + 1)) q = nI (jl (nfr A o) (nto A o) lab q) ∧ gF s' (15 + (i + 1)) q = iI (jr (nfr A o) (nto A o) (ndf A o) lab ris q) := ⟨_, rfl⟩
  obtain ⟨m, hm⟩ := pk_loop (fun m c s' => W_X3_joinPieces_L54 (nI i) (nI (nfr A o)) (nI (nto A o)) (iI (ris (nfr A o) + ndf A o - ris (nto A o))) Q (I (nnn A)) m (nI c) s') I (nnn A) 0 s (Nat.zero_le _)
    (by rw [eI]; exact ⟨zGr.rf i s, fun _ => rfl, fun q hq => by omega⟩)
    (fun m s' hI => br_t (by
      rw [eI] at hI
      exact c_le ((hI.1.1.1 0 (by simp)).trans hR.1.1) (Nat.le_refl _) (by omega)) hI)
    (fun m c s' hc hI hgo => by
      rw [eI] at hI
      obtain ⟨hS, hJ, hq⟩ := hI
      have vc : vp_in (nI c) 6 := vp_in_nI (by omega) (by omega)
      have jc : ix (nI c) = c := ix_nI (by omega)
      have hP' : PW A i lab ris s' := fun q hq => by rw [(hS.2 i (Nat.le_refl _)).1, (hS.2 i (Nat.le_refl _)).2]; exact hP q hq
      refine br_f (c_nle ((hS.1.1 0 (by simp)).trans hR.1.1) hc (by omega)) ⟨vi, vc, vi, vt, ?_⟩
      rw [ii, ii1, jc, jt, jf]
      refine ⟨fun v => v = bI (lab c == lab (nto A o)), fun v hv => nm_r hv ⟨vi1, fun w => w = nI (jl (nfr A o) (nto A o) lab c), fun w hw => ⟨vc, nm_e ⟨vi1, ?_⟩⟩, ?_⟩, ?_⟩
      · have hm9 : 9 + (i + 1) ∈ [9, 10, 11, 12, 13, 14, 15, 16, 17, 18, 19, 20] := by simp; omega
        have hm15 : 15 + (i + 1) ∈ [9, 10, 11, 12, 13, 14, 15, 16, 17, 18, 19, 20] := by simp; omega
        have hnew : ∀ u : Int32, u = iI (jr (nfr A o) (nto A o) (ndf A o) lab ris c) → I (c + 1) (sF (sF s' (9 + (i + 1)) c w) (15 + (i + 1)) c u) := fun u hu => by
          rw [eI]
          refine ⟨⟨(hS.1.tF hm9 _ _).tF hm15 _ _, fun j hj => ?_⟩, hJ, fun q hq1 => ?_⟩
          · rw [gF_sFn _ (by omega), gF_sFn _ (by omega), gF_sFn _ (by omega), gF_sFn _ (by omega)]
            exact hS.2 j hj
          · rw [gF_sFn _ (by omega), gF_sFs, gF_sFs, gF_sFn _ (by omega)]
            by_cases e : q = c
            · rw [if_pos e, if_pos e, e, hw, hu]
              exact ⟨rfl, rfl⟩
            · rw [if_neg e, if_neg e]
              exact hq q (by omega)
        have hrow : gF (sF s' (9 + (i + 1)) c w) (15 + i) c = iI (ris c) := by
          rw [gF_sFn _ (by omega)]
          exact (hP' c hc).2
        refine br_c (fun d => ⟨vi, vc, vc, nm_e (nm_r (nI_1 c) (hgo _ (hnew _ ?_)))⟩) (fun d => ⟨vi, vc, vc, nm_e (nm_r (nI_1 c) (hgo _ (hnew _ ?_)))⟩)
        · rw [hrow]
          have : ¬ lab c = lab (nto A o) := by have := bI_0.mp d; simpa using this
          unfold jr
          rw [if_neg this]
        · rw [hrow, iI_add]
          have : lab c = lab (nto A o) := by have := bI_n0.mp d; simpa using this
          unfold jr
          rw [if_pos this]
      · refine br_c (fun d => ⟨vi, vc, ?_⟩) (fun d => ⟨vi, vf, ?_⟩)
        · have : ¬ lab c = lab (nto A o) := by have := bI_0.mp d; simpa using this
          unfold jl
          rw [if_neg this]
          exact (hP' c hc).1
        · have : lab c = lab (nto A o) := by have := bI_n0.mp d; simpa using this
          unfold jl
          rw [if_pos this]
          exact (hP' _ f1).1
      · rw [(hP' c hc).1, (hP' _ f2).1]
        have h1 := hl6 c hc
        have h2 := hl6 _ f2
        refine nt_c (fun d => ?_) (fun d => ?_)
        · have : (lab c == lab (nto A o)) = false := by simp; exact fun q => d (by rw [q])
          rw [this]; rfl
        · have : (lab c == lab (nto A o)) = true := by simp; exact (nI_eq (by omega) (by omega)).mp d
          rw [this]; rfl)
  refine ⟨_, m, fun s' hI => ?_, hm⟩
  rw [eI] at hI
  exact hQ s' hI.1 hI.2.1 hI.2.2
/-- what the walk knows of what is asked -/
def GW (A : zNt) (t a x br : Nat) (s : zS) : Prop := RX A s ∧ gI s 4 = nI br ∧ gI s 5 = nI (dat A t) ∧ gI s 6 = nI a ∧ ∀ o, o < nko A → (nI o = gI s 7 ↔ o = x)
theorem GW.keep {A : zNt} {t a x br : Nat} {s s' : zS} (h : GW A t a x br s) {i : Nat} (hS : zGr i s s') : GW A t a x br s' := by
  obtain ⟨h1, h2, h3, h4, h5⟩ := h
  have m := hS.1.1
  exact ⟨h1.sm hS.1 ⟨by simp, by simp⟩ ⟨by simp, by simp, by simp, by simp, by simp, by simp, by simp⟩ (by simp), by rw [m 4 (by simp)]; exact h2, by rw [m 5 (by simp)]; exact h3, by rw [m 6 (by simp)]; exact h4, by rw [m 7 (by simp)]; exact h5⟩
def GA (s s' : zS) (a h r : Int) : Prop := gJ s' 1 = gJ s 1 + lI a ∧ gJ s' 2 = gJ s 2 + lI h ∧ gJ s' 3 = gJ s 3 + lI r
theorem GA.tr {s s1 s2 : zS} {a h r a2 h2 r2 : Int} (g : GA s s1 a h r) (g2 : GA s1 s2 a2 h2 r2) : GA s s2 (a + a2) (h + h2) (r + r2) := by
  obtain ⟨g1, g3, g4⟩ := g
  obtain ⟨k1, k3, k4⟩ := g2
  refine ⟨?_, ?_, ?_⟩
  · rw [k1, g1, Int64.add_assoc, lI_add]
  · rw [k3, g3, Int64.add_assoc, lI_add]
  · rw [k4, g4, Int64.add_assoc, lI_add]
theorem GA.e {s s' : zS} {a h r a2 h2 r2 : Int} (g : GA s s' a h r) (e1 : a = a2) (e2 : h = h2) (e3 : r = r2) : GA s s' a2 h2 r2 := by
  subst e1 e2 e3
  exact g
theorem lI_z (x : Int64) : x + lI 0 = x := Int64.add_zero x
theorem W_grow {A : zNt} (hA : zok A) {t a x br : Nat} (ht : t < nnn A) (ha : a ∈ pS A t) (hbr : br ≤ 5) : ∀ (d : Nat) (s : zS) (i o : Nat) (wg : Int) (b : Bool) (lab : Nat → Nat) (ris : Nat → Int) (Q : zS → Prop),
    GW A t a x br s → PW A i lab ris s → (∀ q, q < nnn A → lab q < 6) → i ≤ br → zcnt (pS A t) 6 lab + i = br + 1 → br + 1 ≤ d + i → zspr (pS A t) 6 9999 lab ris → o ≤ nko A →
    (∀ s', zGr i s s' → GA s s' (wg * TS (pS A t) (fun _ => 1) (nEl A (pP A t 14) o (nko A - o)) lab (fun _ => 0)) (wg * TH (pS A t) A (pP A t 14) x b o (nko A - o) lab) (wg * TS (pS A t) (fun q => q a - q (dat A t)) (nEl A (pP A t 14) o (nko A - o)) lab ris) → Q s') →
    W_X3_grow d s (nI i) (nI o) (lI wg) (bI b) Q := by
  have hn := hA.1
  have hk14 := hA.2.1
  have hd0 := dat_S ht
  have haS := (pS_in.mp ha).1
  have hdS := dat_lt ht
  have hEok : ∀ (p : Nat → Bool), (∀ j, p j = true → pP A t 14 j = true) → ∀ o m, o + m ≤ nko A → ∀ e ∈ nEl A p o m, e.1 ∈ pS A t ∧ e.2.1 ∈ pS A t := fun p hp o m hom e he => by
    obtain ⟨j, h1, h2, h3, rfl⟩ := nEl_in he
    exact pE_ok hA (t := t) (w := 14) _ (nEl_mem (hp j h3) (Nat.zero_le _) (by omega))
  intro d
  induction d with
  | zero => intro s i o wg b lab ris Q hG hP hl6 hi hz hdi hsp ho hQ; omega
  | succ d ih =>
    intro s i o wg b lab ris Q hG hP hl6 hi hz hdi hsp ho hQ
    have hlS : ∀ s ∈ pS A t, lab s < 6 := fun s hs => hl6 s (pS_in.mp hs).1
    show W_X3_grow_B (W_X3_grow d) s (nI i) (nI o) (lI wg) (bI b) Q
    refine br_c (fun c => ?_) (fun c => br_t (nI_lt (b := 5) (by
      rw [hG.2.1] at c
      have : ¬ br ≤ i := fun q => c (nI_le q (by omega))
      omega) (by omega)) (nm_e ?_))
    · -- a tree
      have hib : i = br := by
        rw [hG.2.1] at c
        have := (nI_leI (by omega) (by omega)).mp c
        omega
      have hcn : zconn (pS A t) lab := zcnt_one hlS (by omega)
      have e1 : TS (pS A t) (fun _ => 1) (nEl A (pP A t 14) o (nko A - o)) lab (fun _ => 0) = 1 := TS_conn _ (hEok _ (fun _ h => h) _ _ (by omega)) _ _ hcn
      have e2 : TS (pS A t) (fun q => q a - q (dat A t)) (nEl A (pP A t 14) o (nko A - o)) lab ris = ris a - ris (dat A t) := TS_conn _ (hEok _ (fun _ h => h) _ _ (by omega)) _ _ hcn
      have e3 : TH (pS A t) A (pP A t 14) x b o (nko A - o) lab = if b = true then 1 else 0 := by
        unfold TH
        rw [e1, TS_conn _ (hEok (fun j => pP A t 14 j && j != x) (fun j h => by simp only [Bool.and_eq_true] at h; exact h.1) _ _ (by omega)) _ _ hcn]
        split <;> omega
      rw [e1, e2, e3, Int.mul_one] at hQ
      have h1 := hsp a ha _ hd0 (hcn a ha _ hd0)
      have h2 := hsp _ hd0 a ha (hcn _ hd0 a ha)
      have h3 := zsz_le (pS A t) 6 lab (lab a)
      have h4 := zsz_le (pS A t) 6 lab (lab (dat A t))
      have h5 := Int.mul_le_mul_of_nonneg_left (show zsz (pS A t) 6 lab (lab a) - 1 ≤ 5 by omega) (show (0 : Int) ≤ 9999 by omega)
      have h6 := Int.mul_le_mul_of_nonneg_left (show zsz (pS A t) 6 lab (lab (dat A t)) - 1 ≤ 5 by omega) (show (0 : Int) ≤ 9999 by omega)
      have vi : vp_in (nI i) 6 := vp_in_nI (by omega) (by omega)
      refine nm_e ⟨vi, by rw [gI_sJ, hG.2.2.2.1]; exact vp_in_nI (by omega) (by omega), vi, by rw [gI_sJ, hG.2.2.1]; exact vp_in_nI (by omega) (by omega), nm_e ?_⟩
      rw [gI_sJ, gI_sJ, hG.2.2.2.1, hG.2.2.1, gF_sJ, ix_nI (by omega), ix_nI (by omega), ix_nI (by omega), (hP a haS).2, (hP _ hdS).2, iI_sub, iI_l ⟨by omega, by omega⟩, lI_mul]
      have hfr : ∀ s', (∀ k, gI s' k = gI s k) → (∀ k, k ∉ [1, 2, 3] → gJ s' k = gJ s k) → (∀ k, gF s' k = gF s k) → (∀ k, gL s' k = gL s k) → zGr i s s' := fun s' q1 q2 q3 q4 => ⟨⟨fun k _ => q1 k, q2, fun k _ => q3 k, fun k _ => q4 k⟩, fun j _ => ⟨q3 _, q3 _⟩⟩
      cases hb : b
      · rw [hb] at hQ
        refine br_t rfl (hQ _ (hfr _ (fun _ => rfl) (fun k hk => ?_) (fun _ => rfl) (fun _ => rfl)) ⟨?_, ?_, ?_⟩)
        · have k1 : k ≠ 1 := fun q => hk (by simp [q])
          have k3 : k ≠ 3 := fun q => hk (by simp [q])
          simp only [gJ_sJ, if_neg k1, if_neg k3]
        · simp only [gJ_sJ, reduceIte, Nat.reduceEqDiff]
        · rw [if_neg (by decide), Int.mul_zero, lI_z]
          simp only [gJ_sJ, reduceIte, Nat.reduceEqDiff]
        · simp only [gJ_sJ, reduceIte, Nat.reduceEqDiff]
      · rw [hb] at hQ
        refine br_f (by decide) (nm_e (hQ _ (hfr _ (fun _ => rfl) (fun k hk => ?_) (fun _ => rfl) (fun _ => rfl)) ⟨?_, ?_, ?_⟩))
        · have k1 : k ≠ 1 := fun q => hk (by simp [q])
          have k2 : k ≠ 2 := fun q => hk (by simp [q])
          have k3 : k ≠ 3 := fun q => hk (by simp [q])
          simp only [gJ_sJ, if_neg k1, if_neg k2, if_neg k3]
        · simp only [gJ_sJ, reduceIte, Nat.reduceEqDiff]
        · rw [if_pos rfl, Int.mul_one]
          simp only [gJ_sJ, reduceIte, Nat.reduceEqDiff]
        · simp only [gJ_sJ, reduceIte, Nat.reduceEqDiff]
    · -- more is to be taken
      have hib : i < br := by
        rw [hG.2.1] at c
        have : ¬ br ≤ i := fun q => c (nI_le q (by omega))
        omega
      have hncn : ¬ zconn (pS A t) lab := fun q => by
        have := zcnt_conn (N := 6) hd0 (hlS _ hd0) q
        omega
      generalize hT : (fun o => TS (pS A t) (fun _ => 1) (nEl A (pP A t 14) o (nko A - o)) lab (fun _ => 0)) = T at *
      generalize hH : (fun o => TH (pS A t) A (pP A t 14) x b o (nko A - o) lab) = H at *
      generalize hV : (fun o => TS (pS A t) (fun q => q a - q (dat A t)) (nEl A (pP A t 14) o (nko A - o)) lab ris) = V at *
      have eT : ∀ o, TS (pS A t) (fun _ => 1) (nEl A (pP A t 14) o (nko A - o)) lab (fun _ => 0) = T o := fun o => by rw [← hT]
      have eH : ∀ o, TH (pS A t) A (pP A t 14) x b o (nko A - o) lab = H o := fun o => by rw [← hH]
      have eV : ∀ o, TS (pS A t) (fun q => q a - q (dat A t)) (nEl A (pP A t 14) o (nko A - o)) lab ris = V o := fun o => by rw [← hV]
      rw [eT, eH, eV] at hQ
      obtain ⟨I, eI⟩ : ∃ I : Nat → zS → Prop, I = fun j s' => o ≤ j ∧ zGr i s s' ∧ GA s s' (wg * (T o - T j)) (wg * (H o - H j)) (wg * (V o - V j)) := ⟨_, rfl⟩
      obtain ⟨m, hm⟩ := pk_loop (fun m j s' => W_X3_grow_L25 (W_X3_grow d) (nI i) (lI wg) (bI b) Q (I (nko A)) m (nI j) s') I (nko A) o s ho
        (by
          rw [eI]
          refine ⟨Nat.le_refl _, zGr.rf i s, ?_⟩
          rw [Int.sub_self, Int.sub_self, Int.sub_self, Int.mul_zero]
          exact ⟨(lI_z _).symm, (lI_z _).symm, (lI_z _).symm⟩)
        (fun m s' hI => br_t (by
          rw [eI] at hI
          exact c_le (hG.keep hI.2.1).1.1.2.1 (Nat.le_refl _) (by omega)) hI)
        (fun m j s' hj hI hgo => by
          rw [eI] at hI
          obtain ⟨hoj, hS, hGA⟩ := hI
          have hG' := hG.keep hS
          have hP' : PW A i lab ris s' := fun q hq => by rw [(hS.2 i (Nat.le_refl _)).1, (hS.2 i (Nat.le_refl _)).2]; exact hP q hq
          obtain ⟨f1, f2, f3, f4, f5, f6⟩ := hA.2.2.1 j hj
          obtain ⟨e3, e4, e5, e6⟩ := hG'.1.1.2.2.2.1 j hj
          have vi : vp_in (nI i) 6 := vp_in_nI (by omega) (by omega)
          have vj : vp_in (nI j) 14 := vp_in_nI (by omega) (by omega)
          have ejm : nko A - j = nko A - (j + 1) + 1 := by omega
          have hskip : (pP A t 14 j = false ∨ lab (nfr A j) = lab (nto A j)) → I (j + 1) s' := fun hs => by
            rw [eI]
            refine ⟨by omega, hS, hGA.e ?_ ?_ ?_⟩
            · have : T j = T (j + 1) := by
                rw [← eT, ← eT, ejm]
                simp only [nEl]
                by_cases c : pP A t 14 j = true
                · rw [if_pos c]
                  simp only [TS]
                  rcases hs with q | q
                  · rw [q] at c; cases c
                  · rw [if_pos q]; omega
                · rw [if_neg c]
              rw [this]
            · have : H j = H (j + 1) := by
                rw [← eH, ← eH, ejm, TH_skip hs]
              rw [this]
            · have : V j = V (j + 1) := by
                rw [← eV, ← eV, ejm]
                simp only [nEl]
                by_cases c : pP A t 14 j = true
                · rw [if_pos c]
                  simp only [TS]
                  rcases hs with q | q
                  · rw [q] at c; cases c
                  · rw [if_pos q]; omega
                · rw [if_neg c]
              rw [this]
          refine br_f (c_nle hG'.1.1.2.1 hj (by omega)) ?_
          unfold W_X3_joinsPieces
          rw [hG'.2.2.1]
          refine W_isInPartOf hA hG'.1 hj hdS _ ?_
          have hb : (!nwd A j && cI A (nfr A j) (dat A t)) = pP A t 14 j := by
            have hne : (j != 14) = true := by simp; omega
            unfold pP
            rw [hne, Bool.and_true, cI_congr (dat_in A t)]
          rw [hb]
          cases hp : pP A t 14 j
          · exact br_t rfl (br_t rfl (nm_r (nI_1 j) (hgo s' (hskip (Or.inl hp)))))
          · refine br_f (by decide) ⟨vi, vj, ?_⟩
            rw [ix_nI (n := i) (by omega), ix_nI (n := j) (by omega), e3, e4]
            refine ⟨vp_in_nI (by omega) (by omega), vi, vj, vp_in_nI (by omega) (by omega), ?_⟩
            rw [ix_nI (by omega), ix_nI (by omega), (hP' _ f1).1, (hP' _ f2).1]
            have l1 := hl6 _ f1
            have l2 := hl6 _ f2
            refine br_c (fun q => br_t rfl (nm_r (nI_1 j) (hgo s' (hskip (Or.inr ((nI_eq (by omega) (by omega)).mp q)))))) (fun q => br_f (by decide) ?_)
            have hne : ¬ lab (nfr A j) = lab (nto A j) := fun r => q (by rw [r])
            have hfS := pE_ok hA (t := t) (w := 14) _ (nEl_mem hp (Nat.zero_le _) (by omega : j < 0 + nko A))
            refine W_joinPieces hA hG'.1 (by omega) hj hP' hl6 _ (fun s2 hS2 hJ2 hP2 => ?_)
            have hG2 := hG'.keep hS2
            refine ⟨fun v => v = bI (b || j == x), fun v hv => nm_r hv ⟨vj, ?_⟩, ?_⟩
            · rw [nI_1, nI_1, (hG2.1.1.2.2.2.1 j hj).2.2.2, iI_l ⟨by omega, by omega⟩, lI_mul]
              refine ih s2 (i + 1) (j + 1) (wg * nwt A j) (b || j == x) _ _ _ hG2 hP2 (fun q hq => ?_) (by omega) ?_ (by omega) ?_ (by omega) (fun s3 hS3 hGA3 => nm_e (hgo s3 ?_))
              · unfold jl
                split
                · exact l1
                · exact hl6 q hq
              · rw [zcnt_join hfS.1 hfS.2 l2 hne]
                omega
              · exact zspr_join hfS.1 hfS.2 f4 hsp hne
              · have hS3' : zGr i s2 s3 := hS3.dn (by omega)
                have hz0 : GA s' s2 0 0 0 := ⟨by rw [hJ2, lI_z], by rw [hJ2, lI_z], by rw [hJ2, lI_z]⟩
                rw [eI]
                refine ⟨by omega, (hS.tr hS2).tr hS3', ((hGA.tr hz0).tr hGA3).e ?_ ?_ ?_⟩
                · have : T j = T (j + 1) + nwt A j * TS (pS A t) (fun _ => 1) (nEl A (pP A t 14) (j + 1) (nko A - (j + 1))) (jl (nfr A j) (nto A j) lab) (fun _ => 0) := by
                    rw [← eT, ← eT, ejm]
                    simp only [nEl]
                    rw [if_pos hp]
                    simp only [TS]
                    rw [if_neg hne, TD_eq (pS A t) _ (jl (nfr A j) (nto A j) lab) _ (fun _ => 0)]
                  rw [this]
                  grind
                · have : H j = H (j + 1) + nwt A j * TH (pS A t) A (pP A t 14) x (b || j == x) (j + 1) (nko A - (j + 1)) (jl (nfr A j) (nto A j) lab) := by
                    rw [← eH, ← eH, ejm, TH_take hp hne]
                  rw [this]
                  grind
                · have : V j = V (j + 1) + nwt A j * TS (pS A t) (fun q => q a - q (dat A t)) (nEl A (pP A t 14) (j + 1) (nko A - (j + 1))) (jl (nfr A j) (nto A j) lab) (jr (nfr A j) (nto A j) (ndf A j) lab ris) := by
                    rw [← eV, ← eV, ejm]
                    simp only [nEl]
                    rw [if_pos hp]
                    simp only [TS]
                    rw [if_neg hne]
                  rw [this]
                  grind
            · refine nt_c (fun r => ?_) (fun r => ?_)
              · rw [bI_n0.mp r]
                rfl
              · rw [bI_0.mp r]
                refine nt_c (fun r2 => ?_) (fun r2 => ?_)
                · have : (j == x) = false := by simp; exact fun q => r2 ((hG2.2.2.2.2 j hj).mpr q)
                  rw [this]
                  rfl
                · have : (j == x) = true := by simp; exact (hG2.2.2.2.2 j hj).mp r2
                  rw [this]
                  rfl)
      refine ⟨_, m, fun s' hI => ?_, hm⟩
      rw [eI] at hI
      obtain ⟨-, hS, hGA⟩ := hI
      have hT0 : T (nko A) = 0 := by
        rw [← eT, Nat.sub_self]
        simp only [nEl, TS]
        rw [if_neg hncn]
      have hV0 : V (nko A) = 0 := by
        rw [← eV, Nat.sub_self]
        simp only [nEl, TS]
        rw [if_neg hncn]
      have hH0 : H (nko A) = 0 := by
        rw [← eH, Nat.sub_self]
        unfold TH
        simp only [nEl, TS]
        rw [if_neg hncn]
        split <;> rfl
      refine hQ s' hS (hGA.e ?_ ?_ ?_)
      · rw [hT0, Int.sub_zero]
      · rw [hH0, Int.sub_zero]
      · rw [hV0, Int.sub_zero]
end ZWALK

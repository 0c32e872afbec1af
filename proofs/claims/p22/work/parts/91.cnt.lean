/-! HOW MANY OBSERVATIONS A TREE HAS; parts alike; an observation that all trees have -/
section ZCT
def SU (f : Nat → Int) : Nat → Nat → Int
  | _, 0 => 0
  | i, m + 1 => f i + SU f (i + 1) m
theorem SU_congr {f g : Nat → Int} : ∀ m i, (∀ o, i ≤ o → o < i + m → f o = g o) → SU f i m = SU g i m
  | 0, _, _ => rfl
  | m + 1, i, h => by
    simp only [SU]
    rw [h i (Nat.le_refl _) (by omega), SU_congr m (i + 1) (fun o h1 h2 => h o (by omega) (by omega))]
theorem SU_lin (f g : Nat → Int) (w : Int) : ∀ m i, SU (fun o => f o + w * g o) i m = SU f i m + w * SU g i m
  | 0, _ => by simp [SU]
  | m + 1, i => by
    simp only [SU]
    rw [SU_lin f g w m (i + 1), Int.mul_add]
    omega
theorem SU_sN (f : Nat → Int) : ∀ m i, SU f i m = sN f (i + m) - sN f i
  | 0, i => by
    show (0 : Int) = sN f i - sN f i
    omega
  | m + 1, i => by
    have h := SU_sN f m (i + 1)
    have e : sN f (i + 1) = sN f i + f i := rfl
    rw [show i + 1 + m = i + (m + 1) by omega, e] at h
    show f i + SU f (i + 1) m = _
    rw [h]
    omega
theorem SU_0 (f : Nat → Int) (m : Nat) : SU f 0 m = sN f m := by
  have h := SU_sN f m 0
  rw [Nat.zero_add] at h
  rw [h]
  show sN f m - 0 = _
  omega
theorem TD_miss {S : List Nat} {N d0 : Nat} {A : zNt} {p : Nat → Bool} (hd : d0 ∈ S) : ∀ (m i : Nat) (lab : Nat → Nat), (∀ s ∈ S, lab s < N) → (∀ o, i ≤ o → o < i + m → p o = true → nfr A o ∈ S ∧ nto A o ∈ S) →
    SU (fun o => if p o = true then TD S (nEl A (fun j => p j && j != o) i m) lab else 0) i m = (SU (fun o => if p o = true then 1 else 0) i m - (zcnt S N lab - 1)) * TD S (nEl A p i m) lab
  | 0, i, lab, hl, hE => by
    simp only [SU, nEl, TD, TS]
    by_cases c : zconn S lab
    · rw [zcnt_conn hd (hl d0 hd) c]
      simp
    · rw [if_neg c]
      simp
  | m + 1, i, lab, hl, hE => by
    have ih := TD_miss (N := N) (A := A) (p := p) hd m (i + 1)
    have hE2 : ∀ o, i + 1 ≤ o → o < i + 1 + m → p o = true → nfr A o ∈ S ∧ nto A o ∈ S := fun o h1 h2 => hE o (by omega) (by omega)
    rw [show SU (fun o => if p o = true then TD S (nEl A (fun j => p j && j != o) i (m + 1)) lab else 0) i (m + 1) = (if p i = true then TD S (nEl A (fun j => p j && j != i) i (m + 1)) lab else 0) + SU (fun o => if p o = true then TD S (nEl A (fun j => p j && j != o) i (m + 1)) lab else 0) (i + 1) m from rfl,
      show SU (fun o => if p o = true then (1 : Int) else 0) i (m + 1) = (if p i = true then 1 else 0) + SU (fun o => if p o = true then 1 else 0) (i + 1) m from rfl]
    by_cases hp : p i = true
    · obtain ⟨h1, h2⟩ := hE i (Nat.le_refl _) (by omega) hp
      have e0 : nEl A p i (m + 1) = (nfr A i, nto A i, ndf A i, nwt A i) :: nEl A p (i + 1) m := by
        simp only [nEl]
        rw [if_pos hp]
      have e1 : nEl A (fun j => p j && j != i) i (m + 1) = nEl A p (i + 1) m := by
        simp only [nEl]
        rw [if_neg (by simp)]
        refine nEl_congr (fun j q1 q2 => ?_)
        have : (j != i) = true := by simp; omega
        rw [this, Bool.and_true]
      have e2 : ∀ o, i + 1 ≤ o → nEl A (fun j => p j && j != o) i (m + 1) = (nfr A i, nto A i, ndf A i, nwt A i) :: nEl A (fun j => p j && j != o) (i + 1) m := fun o ho => by
        simp only [nEl]
        have : (i != o) = true := by simp; omega
        rw [if_pos (by rw [hp, this]; rfl)]
      rw [if_pos hp, if_pos hp, e1, e0, TD_cons]
      dsimp only
      by_cases c : lab (nfr A i) = lab (nto A i)
      · rw [if_pos c, SU_congr (g := fun o => if p o = true then TD S (nEl A (fun j => p j && j != o) (i + 1) m) lab else 0) m (i + 1) (fun o q1 q2 => by
          by_cases q : p o = true
          · rw [if_pos q, if_pos q, e2 o q1, TD_cons]
            dsimp only
            rw [if_pos c]
            omega
          · rw [if_neg q, if_neg q]), ih lab hl hE2]
        generalize TD S (nEl A p (i + 1) m) lab = T
        generalize SU (fun o => if p o = true then (1 : Int) else 0) (i + 1) m = c9
        rw [Int.add_zero, show 1 + c9 - (zcnt S N lab - 1) = 1 + (c9 - (zcnt S N lab - 1)) by omega, Int.add_mul, Int.one_mul]
      · rw [if_neg c, SU_congr (g := fun o => (if p o = true then TD S (nEl A (fun j => p j && j != o) (i + 1) m) lab else 0) + nwt A i * (if p o = true then TD S (nEl A (fun j => p j && j != o) (i + 1) m) (jl (nfr A i) (nto A i) lab) else 0)) m (i + 1) (fun o q1 q2 => by
          by_cases q : p o = true
          · rw [if_pos q, if_pos q, if_pos q, e2 o q1, TD_cons]
            dsimp only
            rw [if_neg c]
          · rw [if_neg q, if_neg q, if_neg q]
            omega), SU_lin, ih lab hl hE2, ih (jl (nfr A i) (nto A i) lab) (fun s hs => by
              unfold jl
              split
              · exact hl _ h1
              · exact hl _ hs) hE2, zcnt_join h1 h2 (hl _ h2) c]
        generalize TD S (nEl A p (i + 1) m) lab = T0
        generalize TD S (nEl A p (i + 1) m) (jl (nfr A i) (nto A i) lab) = T1
        generalize SU (fun o => if p o = true then (1 : Int) else 0) (i + 1) m = c9
        generalize zcnt S N lab = z
        generalize nwt A i = w
        grind
    · have e0 : nEl A p i (m + 1) = nEl A p (i + 1) m := by
        simp only [nEl]
        rw [if_neg hp]
      have e2 : ∀ o, nEl A (fun j => p j && j != o) i (m + 1) = nEl A (fun j => p j && j != o) (i + 1) m := fun o => by
        simp only [nEl]
        rw [if_neg (by simp [hp])]
      rw [if_neg hp, if_neg hp, e0, Int.zero_add, Int.zero_add, ← ih lab hl hE2]
      exact SU_congr m (i + 1) (fun o _ _ => by rw [e2 o])
/-- parts alike -/
theorem part_cg {A : zNt} {s t : Nat} (h : cI A s t = true) : pS A s = pS A t ∧ pU A s = pU A t ∧ dat A s = dat A t ∧ ∀ w, pE A s w = pE A t w := by
  have e : ∀ u, cI A u s = cI A u t := fun u => cI_congr h u
  have e1 : (fun u => cI A u s) = (fun u => cI A u t) := funext e
  refine ⟨?_, ?_, dat_congr h, fun w => ?_⟩
  · unfold pS
    rw [e1]
  · refine funext (fun u => ?_)
    unfold pU
    rw [e u, dat_congr h]
  · have : pP A s w = pP A t w := funext (fun o => by unfold pP; rw [e])
    unfold pE
    rw [this]
theorem pT_cg {A : zNt} {s t : Nat} (h : cI A s t = true) (w : Nat) : pT A s w = pT A t w := by
  obtain ⟨h1, h2, h3, h4⟩ := part_cg h
  unfold pT
  rw [h1, h2, h3, h4]
theorem pR0_cg {A : zNt} {s t : Nat} (h : cI A s t = true) (q : Nat) : pR0 A s q = pR0 A t q := by
  obtain ⟨h1, h2, h3, h4⟩ := part_cg h
  unfold pR0 pR
  rw [h1, h2, h3, h4]
theorem cu_cg {A : zNt} {s t : Nat} (h : cI A s t = true) : cu A s = cu A t := by
  unfold cu
  rw [(part_cg h).2.1]
theorem zcn_sub {p q : Nat → Bool} : ∀ n, (∀ t, t < n → p t = true → q t = true) → zcn p n ≤ zcn q n
  | 0, _ => Nat.le_refl _
  | n + 1, h => by
    have ih := zcn_sub n (fun t ht => h t (by omega))
    have h1 := h n (by omega)
    simp only [zcn]
    by_cases c : p n = true
    · rw [if_pos c, if_pos (h1 c)]
      omega
    · rw [if_neg c]
      split <;> omega
theorem zcn_but {p q : Nat → Bool} {k : Nat} : ∀ n, (∀ t, t < n → q t = true → p t = true ∨ t = k) → zcn q n ≤ zcn p n + (if k < n then 1 else 0)
  | 0, _ => Nat.zero_le _
  | n + 1, h => by
    have ih := zcn_but n (fun t ht => h t (by omega))
    have h1 := h n (by omega)
    simp only [zcn]
    by_cases c : q n = true
    · rw [if_pos c]
      rcases h1 c with c2 | c2
      · rw [if_pos c2]
        split at ih <;> split <;> omega
      · have : ¬ k < n := by omega
        rw [if_neg this] at ih
        rw [if_pos (show k < n + 1 by omega)]
        split <;> omega
    · rw [if_neg c]
      split at ih <;> split <;> split <;> omega
/-- as many stations as unknowns, and one -/
theorem cu_1 {A : zNt} {t : Nat} (ht : t < nnn A) : ((cu A t : Nat) : Int) + 1 = (zcn (fun u => cI A u t) (nnn A) : Int) := by
  have hp := sN_pick (fun _ => 1) (dat A t) (nnn A)
  rw [if_pos (dat_lt ht)] at hp
  have h1 : sN (fun q => if cI A q t = true then (1 : Int) else 0) (nnn A) = _ := zcn_sN (fun u => cI A u t) (nnn A)
  have h2 : sN (fun q => if pU A t q = true then (1 : Int) else 0) (nnn A) = _ := zcn_sN (pU A t) (nnn A)
  have e : sN (fun q => if cI A q t = true then (1 : Int) else 0) (nnn A) = sN (fun q => (if pU A t q = true then (1 : Int) else 0) + zd q (dat A t) * 1) (nnn A) := sN_congr _ (fun q hq => by
    unfold zd pU
    by_cases e : dat A t = q
    · subst e
      simp [dat_in]
    · have e2 : (q != dat A t) = true := by simp; omega
      rw [if_neg e, e2, Bool.and_true]
      omega)
  rw [sN_add, hp, h1, h2] at e
  exact e.symm
theorem nEl_app {A : zNt} {p : Nat → Bool} : ∀ m1 m2 i, nEl A p i (m1 + m2) = nEl A p i m1 ++ nEl A p (i + m1) m2
  | 0, m2, i => by
    rw [Nat.zero_add, Nat.add_zero]
    rfl
  | m1 + 1, m2, i => by
    have h := nEl_app (A := A) (p := p) m1 m2 (i + 1)
    rw [show m1 + 1 + m2 = (m1 + m2) + 1 by omega, show i + (m1 + 1) = i + 1 + m1 by omega]
    simp only [nEl]
    rw [h]
    split <;> rfl
theorem nEl_cut {A : zNt} {p : Nat → Bool} {o k : Nat} (ho : o < k) (hp : p o = true) : ∃ E1 E2 : List zE, nEl A p 0 k = E1 ++ (nfr A o, nto A o, ndf A o, nwt A o) :: E2 ∧ nEl A (fun j => p j && j != o) 0 k = E1 ++ E2 := by
  refine ⟨nEl A p 0 o, nEl A p (o + 1) (k - o - 1), ?_, ?_⟩
  · have h := nEl_app (A := A) (p := p) o (k - o - 1 + 1) 0
    rw [show o + (k - o - 1 + 1) = k by omega, Nat.zero_add] at h
    rw [h]
    simp only [nEl]
    rw [if_pos hp]
  · have h := nEl_app (A := A) (p := fun j => p j && j != o) o (k - o - 1 + 1) 0
    rw [show o + (k - o - 1 + 1) = k by omega, Nat.zero_add] at h
    rw [h]
    simp only [nEl]
    rw [if_neg (by simp), nEl_congr (p := fun j => p j && j != o) (q := p) (fun i h1 h2 => by
      have : (i != o) = true := by simp; omega
      rw [this, Bool.and_true]), nEl_congr (p := fun j => p j && j != o) (q := p) (fun i h1 h2 => by
      have : (i != o) = true := by simp; omega
      rw [this, Bool.and_true])]
/-- the trees that have an observation -/
theorem pT_with {A : zNt} (hA : zok A) {o : Nat} (ho : o < nko A) (hw : nwd A o = false) : ∃ X : Int, 0 < X ∧ pT A (nfr A o) 14 = pT A (nfr A o) o + nwt A o * X ∧ (0 < pT A (nfr A o) o → X ≤ 14 * pT A (nfr A o) o) := by
  obtain ⟨f1, f2, f3, f4, f5, f6⟩ := hA.2.2.1 o ho
  have hk := hA.2.1
  have hp : pP A (nfr A o) 14 o = true := by
    have : (o != 14) = true := by simp; omega
    simp [pP, hw, cI_rfl, this]
  obtain ⟨E1, E2, hE1, hE2⟩ := nEl_cut (A := A) (p := pP A (nfr A o) 14) ho hp
  have e14 : pE A (nfr A o) 14 = E1 ++ (nfr A o, nto A o, ndf A o, nwt A o) :: E2 := hE1
  have eo : pE A (nfr A o) o = E1 ++ E2 := (pE_w14 hA (nfr A o) o).trans hE2
  have hS1 : nfr A o ∈ pS A (nfr A o) := pS_in.mpr ⟨f1, cI_rfl A _⟩
  have hS2 : nto A o ∈ pS A (nfr A o) := pS_in.mpr ⟨f2, by rw [cI_symm]; exact cI_edge ho hw⟩
  have hwo : ∀ e ∈ pE A (nfr A o) o, 0 < e.2.2.2 := fun e he => (pE_w hA e he).1
  have hT : TD (pS A (nfr A o)) (pE A (nfr A o) 14) (fun q => q) = TD (pS A (nfr A o)) (pE A (nfr A o) o) (fun q => q) + nwt A o * TD (pS A (nfr A o)) (pE A (nfr A o) o) (jl (nfr A o) (nto A o) (fun q => q)) := by
    rw [e14, eo, TD_mid, if_neg f3]
  have t14 : TD (pS A (nfr A o)) (pE A (nfr A o) 14) (fun q => q) = pT A (nfr A o) 14 := TD_id hA _ _
  have to' : TD (pS A (nfr A o)) (pE A (nfr A o) o) (fun q => q) = pT A (nfr A o) o := TD_id hA _ _
  refine ⟨TD (pS A (nfr A o)) (pE A (nfr A o) o) (jl (nfr A o) (nto A o) (fun q => q)), ?_, by rw [← t14, ← to']; exact hT, fun h => ?_⟩
  · refine TD_pos _ hwo _ _ (fun C h1 h2 s hs t ht => ?_)
    have hc : C (nfr A o) ↔ C (nto A o) := h1 _ _ (by unfold jl; rw [if_neg f3, if_pos rfl])
    have hpos := pT_pos hA f1
    rw [← t14] at hpos
    have := TD_conn (α := Prop) (pE A (nfr A o) 14) C (fun e he => by
      rw [e14] at he
      rcases List.mem_append.mp he with q | q
      · exact propext (h2 e (by rw [eo]; exact List.mem_append_left _ q))
      · rcases List.mem_cons.mp q with q | q
        · rw [q]
          exact propext hc
        · exact propext (h2 e (by rw [eo]; exact List.mem_append_right _ q))) (fun q => q) (fun _ => 0) (fun s t q => by rw [show s = t from q]) (by
          have : TS (pS A (nfr A o)) (fun _ => 1) (pE A (nfr A o) 14) (fun q => q) (fun _ => 0) = TD (pS A (nfr A o)) (pE A (nfr A o) 14) (fun q => q) := rfl
          omega) s hs t ht
    rw [this]
  · rw [← to'] at h ⊢
    have h1 := TD_res (pE A (nfr A o) o) (pE_ok hA) hwo (fun q => q) (nfr A o) (nto A o) hS1 hS2 f3 h
    have hl : (pE A (nfr A o) o).length ≤ 14 := Nat.le_trans nEl_len hk
    have h2 := Int.mul_le_mul_of_nonneg_right (show ((pE A (nfr A o) o).length : Int) ≤ 14 by omega) (Int.le_of_lt h)
    omega
theorem TS_none {S : List Nat} {v : (Nat → Int) → Int} : ∀ (E : List zE), (∀ e ∈ E, 0 < e.2.2.2) → ∀ (lab : Nat → Nat) (ris : Nat → Int), TD S E lab = 0 → TS S v E lab ris = 0
  | [], _, lab, ris, h => by
    simp only [TD, TS] at h ⊢
    by_cases c : zconn S lab
    · rw [if_pos c] at h
      omega
    · rw [if_neg c]
  | e :: E, hw, lab, ris, h => by
    have hw2 : ∀ e ∈ E, 0 < e.2.2.2 := fun e he => hw e (List.mem_cons_of_mem _ he)
    have h0 := hw e List.mem_cons_self
    have n0 : 0 ≤ TD S E lab := TD_nonneg E hw2 lab _
    have n1 : 0 ≤ TD S E (jl e.1 e.2.1 lab) := TD_nonneg E hw2 _ _
    rw [TD_cons] at h
    simp only [TS]
    by_cases c : lab e.1 = lab e.2.1
    · rw [if_pos c] at h ⊢
      rw [TS_none E hw2 lab ris (by omega)]
      rfl
    · rw [if_neg c] at h ⊢
      have n2 := Int.mul_nonneg (Int.le_of_lt h0) n1
      have z1 : TD S E (jl e.1 e.2.1 lab) = 0 := by
        rcases Int.mul_eq_zero.mp (show e.2.2.2 * TD S E (jl e.1 e.2.1 lab) = 0 by omega) with q | q
        · omega
        · exact q
      rw [TS_none E hw2 lab ris (by omega), TS_none E hw2 _ _ z1]
      simp
theorem TS_mid {S : List Nat} {v : (Nat → Int) → Int} (hv : ∀ r r2 : Nat → Int, (∀ s ∈ S, ∀ t ∈ S, r s - r t = r2 s - r2 t) → v r = v r2) (e : zE) (E1 E2 : List zE) (lab : Nat → Nat) (ris : Nat → Int) : TS S v (E1 ++ e :: E2) lab ris = TS S v (E1 ++ E2) lab ris + (if lab e.1 = lab e.2.1 then 0 else e.2.2.2 * TS S v (E1 ++ E2) (jl e.1 e.2.1 lab) (jr e.1 e.2.1 e.2.2.1 lab ris)) := by
  induction E1 generalizing lab ris with
  | nil =>
    show TS S v (e :: E2) lab ris = _
    simp only [TS]
    rfl
  | cons f E1 ih =>
    have k : ∀ (E : List zE) (lab : Nat → Nat) (ris : Nat → Int), TS S v (f :: E) lab ris = TS S v E lab ris + (if lab f.1 = lab f.2.1 then 0 else f.2.2.2 * TS S v E (jl f.1 f.2.1 lab) (jr f.1 f.2.1 f.2.2.1 lab ris)) := fun E lab ris => by simp only [TS]
    have k1 : TS S v (f :: E1 ++ e :: E2) lab ris = _ := k (E1 ++ e :: E2) lab ris
    have k2 : TS S v (f :: E1 ++ E2) lab ris = _ := k (E1 ++ E2) lab ris
    have k3 : TS S v (f :: E1 ++ E2) (jl e.1 e.2.1 lab) (jr e.1 e.2.1 e.2.2.1 lab ris) = _ := k (E1 ++ E2) _ _
    rw [k1, k2, k3, ih lab ris, ih (jl f.1 f.2.1 lab) (jr f.1 f.2.1 f.2.2.1 lab ris)]
    by_cases c : lab e.1 = lab e.2.1
    · have c2 : jl f.1 f.2.1 lab e.1 = jl f.1 f.2.1 lab e.2.1 := by simp only [jl, c]
      rw [if_pos c, if_pos c, if_pos c2]
      simp only [Int.add_zero]
    · rw [if_neg c, if_neg c]
      by_cases d : lab f.1 = lab f.2.1
      · have d2 : jl e.1 e.2.1 lab f.1 = jl e.1 e.2.1 lab f.2.1 := by simp only [jl, d]
        rw [if_pos d, if_pos d, if_pos d2]
        simp only [Int.add_zero]
      · rw [if_neg d, if_neg d]
        by_cases g : jl f.1 f.2.1 lab e.1 = jl f.1 f.2.1 lab e.2.1
        · rw [if_pos g, if_pos ((jl_sym c d).mp g)]
          simp only [Int.add_zero]
          omega
        · have g2 : jl e.1 e.2.1 lab f.1 ≠ jl e.1 e.2.1 lab f.2.1 := fun q => g ((jl_sym c d).mpr q)
          have hz : zeq (jl e.1 e.2.1 (jl f.1 f.2.1 lab)) (jl f.1 f.2.1 (jl e.1 e.2.1 lab)) (jr e.1 e.2.1 e.2.2.1 (jl f.1 f.2.1 lab) (jr f.1 f.2.1 f.2.2.1 lab ris)) (jr f.1 f.2.1 f.2.2.1 (jl e.1 e.2.1 lab) (jr e.1 e.2.1 e.2.2.1 lab ris)) := by
            intro s u
            simp only [jl, jr] at g g2 ⊢
            grind
          rw [if_neg g, if_neg g2, TS_zeq hv (E1 ++ E2) hz]
          generalize TS S v (E1 ++ E2) (jl f.1 f.2.1 (jl e.1 e.2.1 lab)) (jr f.1 f.2.1 f.2.2.1 (jl e.1 e.2.1 lab) (jr e.1 e.2.1 e.2.2.1 lab ris)) = Z
          rw [Int.mul_add, Int.mul_add, Int.mul_left_comm]
          omega
/-- what is checked by nothing has no misfit -/
theorem aMis_0 {A : zNt} (hA : zok A) {o : Nat} (ho : o < nko A) (hw : nwd A o = false) (h : pT A (nfr A o) o = 0) : aMis A o = 0 := by
  obtain ⟨f1, f2, f3, f4, f5, f6⟩ := hA.2.2.1 o ho
  have hk := hA.2.1
  have hp : pP A (nfr A o) 14 o = true := by
    have : (o != 14) = true := by simp; omega
    simp [pP, hw, cI_rfl, this]
  obtain ⟨E1, E2, hE1, hE2⟩ := nEl_cut (A := A) (p := pP A (nfr A o) 14) ho hp
  have e14 : pE A (nfr A o) 14 = E1 ++ (nfr A o, nto A o, ndf A o, nwt A o) :: E2 := hE1
  have eo : pE A (nfr A o) o = E1 ++ E2 := (pE_w14 hA (nfr A o) o).trans hE2
  have hS1 : nfr A o ∈ pS A (nfr A o) := pS_in.mpr ⟨f1, cI_rfl A _⟩
  have hS2 : nto A o ∈ pS A (nfr A o) := pS_in.mpr ⟨f2, by rw [cI_symm]; exact cI_edge ho hw⟩
  have hwo : ∀ e ∈ pE A (nfr A o) o, 0 < e.2.2.2 := fun e he => (pE_w hA e he).1
  have to' : TD (pS A (nfr A o)) (pE A (nfr A o) o) (fun q => q) = 0 := (TD_id hA _ _).trans h
  have t14 : TD (pS A (nfr A o)) (pE A (nfr A o) 14) (fun q => q) = pT A (nfr A o) 14 := TD_id hA _ _
  have hv : ∀ r r2 : Nat → Int, (∀ s ∈ pS A (nfr A o), ∀ t ∈ pS A (nfr A o), r s - r t = r2 s - r2 t) → (fun r : Nat → Int => r (nto A o) - r (nfr A o) - ndf A o) r = (fun r : Nat → Int => r (nto A o) - r (nfr A o) - ndf A o) r2 := fun r r2 q => by
    have := q _ hS2 _ hS1
    show r (nto A o) - r (nfr A o) - ndf A o = r2 (nto A o) - r2 (nfr A o) - ndf A o
    omega
  have hz : TS (pS A (nfr A o)) (fun r => r (nto A o) - r (nfr A o) - ndf A o) (pE A (nfr A o) 14) (fun q => q) (fun _ => 0) = 0 := by
    rw [e14, TS_mid hv, ← eo, TS_none _ hwo _ _ to']
    dsimp only
    rw [if_neg f3, TS_join0 _ _ _ _ _ _ _ f3]
    simp
  rw [TS_aff, TP_sub _ _ _ (dat A (nfr A o)), TR_id hA f1 hS2, TR_id hA f1 hS1, t14] at hz
  exact hz
end ZCT

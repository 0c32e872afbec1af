/-! THE CLASS SOLVES THE EQUATIONS OF A PART -/
section ZSOLVE
theorem zcn_mono (p : Nat → Bool) {i n : Nat} (h : i ≤ n) : zcn p i ≤ zcn p n := by
  induction n with
  | zero => rw [show i = 0 by omega]; exact Nat.le_refl _
  | succ n ih =>
    by_cases e : i = n + 1
    · rw [e]; exact Nat.le_refl _
    · have := ih (by omega)
      simp only [zcn]
      split <;> omega
theorem zcn_lt {p : Nat → Bool} {i n : Nat} (h : i < n) (hp : p i = true) : zcn p i < zcn p n := by
  have h1 := zcn_mono p (i := i + 1) (n := n) h
  simp only [zcn] at h1
  rw [if_pos hp] at h1
  omega
theorem zcn_miss {p : Nat → Bool} {d : Nat} (hp : p d = false) : ∀ n, d < n → zcn p n + 1 ≤ n
  | 0, h => by omega
  | n + 1, h => by
    simp only [zcn]
    by_cases e : d = n
    · subst e
      have := zcn_le p d
      rw [if_neg (by rw [hp]; decide)]
      omega
    · have := zcn_miss hp n (by omega)
      split <;> omega
theorem zcn_ex (p : Nat → Bool) : ∀ n i, i < zcn p n → ∃ s, s < n ∧ p s = true ∧ zcn p s = i
  | 0, i, h => by simp [zcn] at h
  | n + 1, i, h => by
    simp only [zcn] at h
    split at h
    · rename_i hp
      by_cases e : i = zcn p n
      · exact ⟨n, by omega, hp, e.symm⟩
      · obtain ⟨s, h1, h2⟩ := zcn_ex p n i (by omega)
        exact ⟨s, by omega, h2⟩
    · obtain ⟨s, h1, h2⟩ := zcn_ex p n i h
      exact ⟨s, by omega, h2⟩
noncomputable def cu (A : zNt) (t : Nat) : Nat := zcn (pU A t) (nnn A)
noncomputable def cg (A : zNt) (t : Nat) (i : Nat) : Nat := zfst (fun s => pU A t s && zcn (pU A t) s == i) 6
theorem cg_of {A : zNt} {t s : Nat} (hs : s < 6) (hp : pU A t s = true) : cg A t (zcn (pU A t) s) = s := by
  refine zfst_at (by simp [hp]) (fun j hj => ?_) 6 hs
  cases hh : pU A t j
  · rfl
  · have := zcn_lt hj hh
    simp
    omega
theorem cg_sp {A : zNt} (hA : zok A) {t i : Nat} (hi : i < cu A t) : cg A t i < nnn A ∧ pU A t (cg A t i) = true ∧ zcn (pU A t) (cg A t i) = i := by
  obtain ⟨s, h1, h2, h3⟩ := zcn_ex (pU A t) (nnn A) i hi
  have := hA.1
  have e := cg_of (A := A) (t := t) (s := s) (by omega) h2
  rw [h3] at e
  rw [e]
  exact ⟨h1, h2, h3⟩
theorem pU_S {A : zNt} (hA : zok A) {t s : Nat} (ht : t < nnn A) (h : pU A t s = true) : s ∈ pS A t ∧ s ≠ dat A t := by
  simp only [pU, Bool.and_eq_true, bne_iff_ne] at h
  exact ⟨pS_in.mpr ⟨(cI_lt hA h.1).mpr ht, h.1⟩, h.2⟩
theorem cu_le {A : zNt} (hA : zok A) {t : Nat} (ht : t < nnn A) : cu A t ≤ 5 := by
  have := zcn_miss (pU_d A t) (nnn A) (dat_lt ht)
  have := hA.1
  unfold cu
  omega
theorem c_row {A : zNt} (hA : zok A) {t : Nat} (ht : t < nnn A) : zrow (pS A t) (dat A t) (cu A t) (cg A t) (fun _ => true) 5 := by
  have := cu_le hA ht
  refine ⟨this, by omega, fun i hi _ => pU_S hA ht (cg_sp hA hi).2.1, fun i j hi hj _ _ e => ?_⟩
  have h1 := (cg_sp hA hi).2.2
  have h2 := (cg_sp hA hj).2.2
  rw [e, h2] at h1
  exact h1.symm
theorem c_zU {A : zNt} (hA : zok A) {t : Nat} (ht : t < nnn A) : zU (cg A t) (fun _ => true) (cu A t) = pU A t := by
  funext s
  refine Bool.eq_iff_iff.mpr ((zU_iff _ _ _ _).trans ⟨fun ⟨i, h1, _, h3⟩ => ?_, fun h => ?_⟩)
  · rw [← h3]
    exact (cg_sp hA h1).2.1
  · have h1 := (pS_in.mp (pU_S hA ht h).1).1
    have := hA.1
    exact ⟨zcn (pU A t) s, zcn_lt h1 h, rfl, cg_of (by omega) h⟩
/-- the rows of the stations -/
def CR (A : zNt) (t : Nat) (s : zS) : Prop := gI s 2 = nI (cu A t) ∧ gI s 3 = nI (dat A t) ∧ ∀ q, q < nnn A → gF s 8 q = if pU A t q = true then nI (zcn (pU A t) q) else -1
theorem W_numberUnknowns {A : zNt} (hA : zok A) {s : zS} (hR : RX A s) {t : Nat} (ht : t < nnn A) (h3 : gI s 3 = nI (dat A t)) (Q : zS → Prop) (hQ : ∀ s', zSm [2] [] [8] [] s s' → CR A t s' → Q s') : W_X0_numberUnknowns s Q := by
  have hn := hA.1
  refine nm_e (nm_e ?_)
  obtain ⟨I, eI⟩ : ∃ I : Nat → zS → Prop, I = fun i s' => zSm [2] [] [8] [] s s' ∧ gI s' 2 = nI (zcn (pU A t) i) ∧ ∀ q, q < i → gF s' 8 q = if pU A t q = true then nI (zcn (pU A t) q) else -1 := ⟨_, rfl⟩
  obtain ⟨m, hm⟩ := pk_loop (fun m i s' => W_X0_numberUnknowns_L7 Q (I (nnn A)) m (nI i) s') I (nnn A) 0 (sI s 2 0) (Nat.zero_le _)
    (by rw [eI]; exact ⟨(zSm.rf s).tI (by simp) _, rfl, fun q hq => by omega⟩)
    (fun m s' hI => br_t (by
      rw [eI] at hI
      exact c_le ((hI.1.1 0 (by simp)).trans hR.1.1) (Nat.le_refl _) (by omega)) hI)
    (fun m i s' hi1 hI hk => by
      rw [eI] at hI
      obtain ⟨hS, h2, hq⟩ := hI
      have hR' : RX A s' := hR.sm hS ⟨by simp, by simp⟩ ⟨by simp, by simp, by simp, by simp, by simp, by simp, by simp⟩ (by simp)
      have h3' : gI s' 3 = nI (dat A t) := (hS.1 3 (by simp)).trans h3
      have hc := zcn_le (pU A t) i
      have hin : vp_in (nI i) 6 := vp_in_nI (by omega) (by omega)
      refine br_f (c_nle hR'.1.1 hi1 (by omega)) ⟨fun v => v = bI (pU A t i), fun v hv => nm_r hv ⟨fun w => w = if pU A t i = true then nI (zcn (pU A t) i) else -1, fun w hw => ⟨hin, nm_e ?_⟩, ?_⟩, ?_⟩
      · rw [ix_nI (by omega)]
        have hnew : ∀ q, q < i + 1 → gF (sF s' 8 i w) 8 q = if pU A t q = true then nI (zcn (pU A t) q) else -1 := fun q hq1 => by
          rw [gF_sFs]
          by_cases e : q = i
          · rw [if_pos e, hw, e]
          · rw [if_neg e]
            exact hq q (by omega)
        cases hp : pU A t i
        · refine br_t rfl (nm_r (nI_1 i) (hk _ ?_))
          rw [eI]
          refine ⟨hS.tF (by simp) _ _, ?_, hnew⟩
          simp only [zcn]
          rw [if_neg (by rw [hp]; decide)]
          exact h2
        · refine br_f (by decide) (nm_r (by rw [gI_sF, h2, nI_1]) (nm_r (nI_1 i) (hk _ ?_)))
          rw [eI]
          refine ⟨(hS.tF (by simp) _ _).tI (by simp) _, ?_, hnew⟩
          rw [gI_sI, if_pos rfl]
          simp only [zcn]
          rw [if_pos hp]
      · cases hp : pU A t i
        · exact br_t rfl (by rw [if_neg (by decide)])
        · exact br_f (by decide) (by rw [if_pos rfl]; exact h2)
      · refine br_c (fun c => ?_) (fun c => ?_)
        · rw [h3'] at c
          have c2 := (nI_eq (by omega) (by have := dat_lt ht; omega)).mp c
          have : pU A t i = false := by rw [c2]; exact pU_d A t
          rw [this]; rfl
        · rw [h3'] at c ⊢
          have c2 : i ≠ dat A t := fun q => c (by rw [q])
          have hb : pU A t i = cI A i (dat A t) := by
            have : (i != dat A t) = true := by simp [c2]
            unfold pU
            rw [this, Bool.and_true]
            exact (cI_congr (dat_in A t) i).symm
          refine W_areIn hA hR' hi1 (dat_lt ht) _ ?_
          rw [← hb]
          cases hp : pU A t i
          · exact br_t rfl rfl
          · exact br_f (by decide) rfl)
  refine ⟨_, m, fun s' hI => ?_, hm⟩
  rw [eI] at hI
  exact hQ s' hI.1 ⟨hI.2.1, (hI.1.1 3 (by simp)).trans h3, hI.2.2⟩
theorem W_clearCells {s : zS} (Q : zS → Prop) (hQ : ∀ s', zSm [] [] [] [0, 1, 2, 3, 4] s s' → (∀ r c, r < 5 → c < 6 → gL s' r c = 0) → Q s') : W_X0_clearCells s Q := by
  refine nm_e ?_
  obtain ⟨I, eI⟩ : ∃ I : Nat → zS → Prop, I = fun i s' => zSm [] [] [] [0, 1, 2, 3, 4] s s' ∧ ∀ r c, r < i → c < 6 → gL s' r c = 0 := ⟨_, rfl⟩
  obtain ⟨m, hm⟩ := pk_loop (fun m i s' => W_X0_clearCells_L2 Q (I 5) m (nI i) s') I 5 0 s (Nat.zero_le _)
    (by rw [eI]; exact ⟨zSm.rf s, fun r c hr => by omega⟩)
    (fun m s' hI => br_t (nI_le (Nat.le_refl 5) (by omega)) hI)
    (fun m i s' hi1 hI hk => by
      rw [eI] at hI
      refine br_f (nI_ge (b := 5) hi1 (by omega)) (nm_e ?_)
      obtain ⟨J, eJ⟩ : ∃ J : Nat → zS → Prop, J = fun j s2 => zSm [] [] [] [0, 1, 2, 3, 4] s s2 ∧ ∀ r c, (r < i ∨ (r = i ∧ c < j)) → c < 6 → gL s2 r c = 0 := ⟨_, rfl⟩
      obtain ⟨m2, hm2⟩ := pk_loop (fun m j s2 => W_X0_clearCells_L9 (nI i) Q (J 6) m (nI j) s2) J 6 0 s' (Nat.zero_le _)
        (by rw [eJ]; exact ⟨hI.1, fun r c hr => hI.2 r c (by omega)⟩)
        (fun m s' hI => br_t (nI_le (Nat.le_refl 6) (by omega)) hI)
        (fun m2 j s2 hj hJ hk2 => by
          rw [eJ] at hJ
          refine br_f (nI_ge (b := 6) hj (by omega)) ⟨vp_in_nI (by omega) (by omega), vp_in_nI (by omega) (by omega), nm_e ?_⟩
          rw [ix_nI (by omega), ix_nI (by omega), Nat.zero_add]
          refine nm_r (nI_1 j) (hk2 _ ?_)
          rw [eJ]
          refine ⟨hJ.1.tL (by simp; omega) _ _, fun r c hr hc => ?_⟩
          rw [gL_sL]
          by_cases e : r = i
          · rw [if_pos e]
            unfold vp_updL
            by_cases e2 : c = j
            · rw [if_pos e2]
            · rw [if_neg e2, ← e]
              exact hJ.2 r c (by omega) hc
          · rw [if_neg e]
            exact hJ.2 r c (by omega) hc)
      refine ⟨_, m2, fun s2 hJ => nm_r (nI_1 i) (hk s2 ?_), hm2⟩
      rw [eJ] at hJ
      rw [eI]
      exact ⟨hJ.1, fun r c hr hc => hJ.2 r c (by omega) hc⟩)
  refine ⟨_, m, fun s' hI => ?_, hm⟩
  rw [eI] at hI
  exact hQ s' hI.1 hI.2
/-- the cells of u rows hold F -/
def CE (u : Nat) (F : Nat → Nat → Int) (s : zS) : Prop := ∀ r c, r < u → (c < u ∨ c = 5) → gL s r c = lI (F r c)
theorem W_addToRow {A : zNt} (hA : zok A) {t : Nat} (ht : t < nnn A) {s : zS} {F : Nat → Nat → Int} (hC : CE (cu A t) F s) {a b : Nat} (ha : a < nnn A) (hb : b < nnn A) (hab : a ≠ b) (w p : Int) {x y : Int32}
    (hx : x = if pU A t a = true then nI (zcn (pU A t) a) else -1) (hy : y = if pU A t b = true then nI (zcn (pU A t) b) else -1) (Q : zS → Prop)
    (hQ : ∀ s', zSm [] [] [] [0, 1, 2, 3, 4] s s' → CE (cu A t) (fun r c => F r c + (if cg A t r = a then (if c = 5 then p else w * (zd (cg A t c) a - zd (cg A t c) b)) else 0)) s' → Q s') : W_X0_addToRow s x y (lI w) (lI p) Q := by
  have hn := hA.1
  have hu := cu_le hA ht
  subst hx
  subst hy
  have i5 : ix 5 = 5 := rfl
  by_cases c1 : pU A t a = true
  · rw [if_pos c1]
    have r1 := zcn_lt ha c1
    have hr : zcn (pU A t) a < cu A t := r1
    have er := cg_of (A := A) (t := t) (s := a) (by omega) c1
    have ir : ix (nI (zcn (pU A t) a)) = zcn (pU A t) a := ix_nI (by omega)
    have inj : ∀ r, r < cu A t → (cg A t r = a ↔ r = zcn (pU A t) a) := fun r hr => ⟨fun e => by rw [← e]; exact (cg_sp hA hr).2.2.symm, fun e => by rw [e]; exact er⟩
    have hin5 : vp_in (nI (zcn (pU A t) a)) 5 := vp_in_nI (by omega) (by omega)
    have hin6 : vp_in (nI (zcn (pU A t) a)) 6 := vp_in_nI (by omega) (by omega)
    have hmem : zcn (pU A t) a ∈ [0, 1, 2, 3, 4] := by simp; omega
    have hne : ¬ nI (zcn (pU A t) a) = -1 := fun q => by
      have := congrArg Int32.toInt q
      rw [nI_toInt (by omega)] at this
      have e2 : (-1 : Int32).toInt = -1 := rfl
      omega
    refine nt_t hne ⟨hin5, hin6, hin6, nm_e ⟨hin5, vp_in_nI (n := 5) (by omega) (by omega), vp_in_nI (n := 5) (by omega) (by omega), nm_e ?_⟩⟩
    rw [ir, i5, Nat.zero_add]
    have hw5 : ¬ zcn (pU A t) a = 5 := by omega
    by_cases c2 : pU A t b = true
    · rw [if_pos c2]
      have hc : zcn (pU A t) b < cu A t := zcn_lt hb c2
      have ec := cg_of (A := A) (t := t) (s := b) (by omega) c2
      have ic : ix (nI (zcn (pU A t) b)) = zcn (pU A t) b := ix_nI (by omega)
      have hne2 : ¬ nI (zcn (pU A t) b) = -1 := fun q => by
        have := congrArg Int32.toInt q
        rw [nI_toInt (by omega)] at this
        have e2 : (-1 : Int32).toInt = -1 := rfl
        omega
      have hrc : zcn (pU A t) a ≠ zcn (pU A t) b := fun q => hab (by rw [← er, ← ec, q])
      refine br_f hne2 ⟨hin5, vp_in_nI (by omega) (by omega), vp_in_nI (by omega) (by omega), nm_e (hQ _ ((((zSm.rf s).tL hmem _ _).tL hmem _ _).tL hmem _ _) ?_)⟩
      rw [ic]
      intro r c hr2 hc2
      dsimp only
      have h0 := hC r c hr2 hc2
      by_cases e : r = zcn (pU A t) a
      · subst e
        simp only [gL_sLs]
        rw [if_pos er]
        by_cases d1 : c = zcn (pU A t) b
        · subst d1
          rw [if_pos rfl, if_neg (by omega), if_neg (by omega), h0, lI_sub, if_neg (by omega), ec]
          unfold zd
          rw [if_neg hab, if_pos rfl]
          congr 1
          omega
        · rw [if_neg d1]
          by_cases d2 : c = 5
          · subst d2
            rw [if_pos rfl, if_neg (by omega), h0, lI_add, if_pos rfl]
          · rw [if_neg d2, if_neg d2]
            have hcu : c < cu A t := by omega
            by_cases d3 : c = zcn (pU A t) a
            · subst d3
              rw [if_pos rfl, h0, lI_add, er]
              unfold zd
              rw [if_pos rfl, if_neg (fun q => hab q.symm)]
              congr 1
              omega
            · rw [if_neg d3, h0]
              have e1 : ¬ a = cg A t c := fun q => d3 ((inj c hcu).mp q.symm)
              have e2 : ¬ b = cg A t c := fun q => d1 (by rw [← (cg_sp hA hcu).2.2, ← q])
              unfold zd
              rw [if_neg e1, if_neg e2]
              congr 1
              omega
      · rw [gL_sLn _ e, gL_sLn _ e, gL_sLn _ e, h0, if_neg (fun q => e ((inj r hr2).mp q)), Int.add_zero]
    · rw [if_neg c2]
      refine br_t rfl (hQ _ (((zSm.rf s).tL hmem _ _).tL hmem _ _) ?_)
      intro r c hr2 hc2
      dsimp only
      have h0 := hC r c hr2 hc2
      by_cases e : r = zcn (pU A t) a
      · subst e
        simp only [gL_sLs]
        rw [if_pos er]
        by_cases d2 : c = 5
        · subst d2
          rw [if_pos rfl, if_neg (by omega), h0, lI_add, if_pos rfl]
        · rw [if_neg d2, if_neg d2]
          have hcu : c < cu A t := by omega
          have e2 : ¬ b = cg A t c := fun q => c2 (by rw [q]; exact (cg_sp hA hcu).2.1)
          by_cases d3 : c = zcn (pU A t) a
          · subst d3
            rw [if_pos rfl, h0, lI_add, er]
            unfold zd
            rw [if_pos rfl, if_neg (fun q => hab q.symm)]
            congr 1
            omega
          · rw [if_neg d3, h0]
            have e1 : ¬ a = cg A t c := fun q => d3 ((inj c hcu).mp q.symm)
            unfold zd
            rw [if_neg e1, if_neg e2]
            congr 1
            omega
      · rw [gL_sLn _ e, gL_sLn _ e, h0, if_neg (fun q => e ((inj r hr2).mp q)), Int.add_zero]
  · rw [if_neg c1]
    refine nt_f rfl (hQ s (zSm.rf s) ?_)
    intro r c hr2 hc2
    dsimp only
    rw [hC r c hr2 hc2, if_neg (fun q => c1 (by rw [← q]; exact (cg_sp hA hr2).2.1)), Int.add_zero]
theorem nEl_snoc (A : zNt) (p : Nat → Bool) : ∀ m i, nEl A p i (m + 1) = nEl A p i m ++ (if p (i + m) = true then [(nfr A (i + m), nto A (i + m), ndf A (i + m), nwt A (i + m))] else [])
  | 0, i => by
    simp only [nEl, List.nil_append, Nat.add_zero]
  | m + 1, i => by
    have ih := nEl_snoc A p m (i + 1)
    rw [show i + (m + 1) = i + 1 + m by omega]
    show (if p i = true then _ :: nEl A p (i + 1) (m + 1) else nEl A p (i + 1) (m + 1)) = (if p i = true then _ :: nEl A p (i + 1) m else nEl A p (i + 1) m) ++ _
    rw [ih]
    split
    · rfl
    · rfl
theorem Lp_app (E F : List zE) (r j : Nat) : Lp (E ++ F) r j = Lp E r j + Lp F r j := by
  induction E with
  | nil => simp [Lp]
  | cons e E ih => simp only [List.cons_append, Lp, ih]; omega
theorem Lb_app (E F : List zE) (r : Nat) : Lb (E ++ F) r = Lb E r + Lb F r := by
  induction E with
  | nil => simp [Lb]
  | cons e E ih => simp only [List.cons_append, Lb, ih]; omega
/-- the equations out of the first o observations with p -/
noncomputable def cF (A : zNt) (t : Nat) (p : Nat → Bool) (o r c : Nat) : Int := if c = 5 then Lb (nEl A p 0 o) (cg A t r) else Lp (nEl A p 0 o) (cg A t r) (cg A t c)
theorem W_addToCells {A : zNt} (hA : zok A) {t : Nat} (ht : t < nnn A) {s : zS} (hR : RX A s) (hCR : CR A t s) {p : Nat → Bool} {o : Nat} (ho : o < nko A) (hp : p o = true) (hC : CE (cu A t) (cF A t p o) s) (Q : zS → Prop)
    (hQ : ∀ s', zSm [] [] [] [0, 1, 2, 3, 4] s s' → CE (cu A t) (cF A t p (o + 1)) s' → Q s') : W_X0_addToCells s (nI o) Q := by
  have hn := hA.1
  have hk := hA.2.1
  obtain ⟨f1, f2, f3, f4, f5, f6⟩ := hA.2.2.1 o ho
  obtain ⟨e3, e4, e5, e6⟩ := hR.1.2.2.2.1 o ho
  have hin : vp_in (nI o) 14 := vp_in_nI (by omega) (by omega)
  refine ⟨hin, ?_⟩
  rw [ix_nI (by omega), e3, e4, e5, e6]
  have hx1 : gF s 8 (ix (nI (nfr A o))) = if pU A t (nfr A o) = true then nI (zcn (pU A t) (nfr A o)) else -1 := by rw [ix_nI (by omega)]; exact hCR.2.2 _ f1
  have hx2 : gF s 8 (ix (nI (nto A o))) = if pU A t (nto A o) = true then nI (zcn (pU A t) (nto A o)) else -1 := by rw [ix_nI (by omega)]; exact hCR.2.2 _ f2
  refine ⟨vp_in_nI (by omega) (by omega), nm_r hx1 ⟨hin, vp_in_nI (by omega) (by omega), nm_r hx2 ⟨hin, nm_r (iI_l ⟨by omega, by omega⟩) ⟨hin, nm_r (by rw [iI_l ⟨by omega, by omega⟩, lI_mul]) ?_⟩⟩⟩⟩
  refine W_addToRow hA ht hC f2 f1 (fun q => f3 q.symm) _ _ rfl rfl _ (fun s1 hS1 hC1 => ?_)
  rw [lI_neg]
  refine W_addToRow hA ht hC1 f1 f2 f3 _ _ rfl rfl _ (fun s2 hS2 hC2 => hQ s2 (hS1.tr hS2) ?_)
  intro r c hr hc
  rw [hC2 r c hr hc]
  dsimp only
  congr 1
  unfold cF
  rw [nEl_snoc, Nat.zero_add, if_pos hp]
  by_cases d : c = 5
  · simp only [if_pos d]
    rw [Lb_app]
    simp only [Lb]
    unfold zd
    by_cases g1 : cg A t r = nto A o
    · have g2 : ¬ cg A t r = nfr A o := fun q => f3 (by rw [← q, g1])
      rw [if_pos g1, if_neg g2, if_pos g1.symm, if_neg (fun q => g2 q.symm)]
      simp
    · by_cases g2 : cg A t r = nfr A o
      · rw [if_neg g1, if_pos g2, if_neg (fun q => g1 q.symm), if_pos g2.symm]
        simp
        rw [Int.neg_mul]
      · rw [if_neg g1, if_neg g2, if_neg (fun q => g1 q.symm), if_neg (fun q => g2 q.symm)]
        simp
  · simp only [if_neg d]
    rw [Lp_app]
    simp only [Lp]
    have z1 : zd (cg A t r) (nto A o) = if cg A t r = nto A o then 1 else 0 := by unfold zd; exact zite ⟨Eq.symm, Eq.symm⟩
    have z2 : zd (cg A t r) (nfr A o) = if cg A t r = nfr A o then 1 else 0 := by unfold zd; exact zite ⟨Eq.symm, Eq.symm⟩
    rw [z1, z2]
    generalize zd (cg A t c) (nto A o) = b1
    generalize zd (cg A t c) (nfr A o) = b2
    by_cases g1 : cg A t r = nto A o
    · have g2 : ¬ cg A t r = nfr A o := fun q => f3 (by rw [← q, g1])
      rw [if_pos g1, if_neg g2]
      grind
    · by_cases g2 : cg A t r = nfr A o
      · rw [if_neg g1, if_pos g2]
        grind
      · simp only [if_neg g1, if_neg g2]
        grind
end ZSOLVE

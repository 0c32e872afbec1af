/-! THE MODEL (2): it lays and solves the equations -/
section ZMODEL2
def MC (F : Nat → Nat → Int) (s : zS) : Prop := ∀ r c, r < 6 → c < 7 → gL s 0 (7 * r + c) = lI (F r c)
theorem c7 (r c : Nat) : 7 * nI r + nI c = nI (7 * r + c) := by
  rw [show (7 : Int32) = nI 7 from rfl, pk_mul, nI_add]
theorem W_adds {s : zS} {F : Nat → Nat → Int} (hC : MC F s) {d r c : Nat} (hd : gI s 4 = nI d) (hd6 : d < 6) (hr : r < 6) (hc : c < 7) (v : Int) (Q : zS → Prop)
    (hQ : ∀ s', zSm [] [] [] [0] s s' → MC (fun r' c' => F r' c' + (if r' = r ∧ c' = c ∧ r ≠ d ∧ c ≠ d then v else 0)) s' → Q s') : W_X5_adds s (nI r) (nI c) (lI v) Q := by
  unfold W_X5_adds
  rw [hd, c7]
  have hno : (r = d ∨ c = d) → Q s := fun h => hQ s (zSm.rf s) (fun r' c' h1 h2 => by
    rw [hC r' c' h1 h2]
    dsimp only
    rw [if_neg (fun q => by omega), Int.add_zero])
  refine br_c (fun e => hno (Or.inl ((nI_eq (by omega) (by omega)).mp e))) (fun e => br_c (fun e2 => hno (Or.inr ((nI_eq (by omega) (by omega)).mp e2))) (fun e2 => ⟨vp_in_nI (by omega) (by omega), vp_in_nI (by omega) (by omega), nm_e (hQ _ ((zSm.rf s).tL (by simp) _ _) ?_)⟩))
  have n1 : r ≠ d := fun q => e (by rw [q])
  have n2 : c ≠ d := fun q => e2 (by rw [q])
  intro r' c' h1 h2
  dsimp only
  rw [ix_nI (by omega), gL_sLs]
  by_cases g : r' = r ∧ c' = c
  · rw [if_pos (by rw [g.1, g.2]), hC r c hr hc, lI_add, if_pos ⟨g.1, g.2, n1, n2⟩, g.1, g.2]
  · rw [if_neg (by omega), hC r' c' h1 h2, if_neg (fun q => g ⟨q.1, q.2.1⟩), Int.add_zero]
/-- the left side out of the first o observations with p, and the right side G -/
def mF (A : zNt) (p : Nat → Bool) (re : Nat → Bool) (o : Nat) (G : Nat → Int) (r c : Nat) : Int := if c = 6 then (if re r = true then G r else 0) else if re r = true ∧ re c = true then Lp (nEl A p 0 o) r c else if r = c then 1 else 0
theorem RP.sm {A : zNt} {t : Nat} {li lj lf ll : List Nat} {s s' : zS} (h : RP A t s) (m : zSm li lj lf ll s s') (h1 : 0 ∉ li ∧ 1 ∉ li ∧ 4 ∉ li) (h2 : 0 ∉ lf ∧ 1 ∉ lf ∧ 2 ∉ lf ∧ 3 ∉ lf ∧ 4 ∉ lf ∧ 5 ∉ lf ∧ 6 ∉ lf) (h3 : 8 ∉ lf) : RP A t s' :=
  ⟨h.1.sm m ⟨h1.1, h1.2.1⟩ h2, by rw [m.1 4 h1.2.2]; exact h.2.1, by rw [m.2.2.1 8 h3]; exact h.2.2⟩
theorem W_lays {A : zNt} (hA : zok A) {s : zS} {t : Nat} (ht : t < nnn A) (hR : RP A t s) (Q : zS → Prop) (hQ : ∀ s', zSm [] [] [] [0] s s' → MC (mF A (pP A t 14) (pU A t) (nko A) (fun _ => 0)) s' → Q s') : W_X5_lays s Q := by
  have hn := hA.1
  have hk14 := hA.2.1
  have hd := dat_lt ht
  have hkeep : ∀ s', zSm [] [] [] [0] s s' → RP A t s' := fun s' h => hR.sm h ⟨by simp, by simp, by simp⟩ ⟨by simp, by simp, by simp, by simp, by simp, by simp, by simp⟩ (by simp)
  refine nm_e ?_
  obtain ⟨I, eI⟩ : ∃ I : Nat → zS → Prop, I = fun i s' => zSm [] [] [] [0] s s' ∧ ∀ q, q < i → gL s' 0 q = 0 := ⟨_, rfl⟩
  obtain ⟨m, hm⟩ := pk_loop (fun m i s' => W_X5_lays_L2 Q (I 42) m (nI i) s') I 42 0 s (Nat.zero_le _)
    (by rw [eI]; exact ⟨zSm.rf s, fun q hq => by omega⟩)
    (fun m s' hI => br_t (nI_le (Nat.le_refl 42) (by omega)) hI)
    (fun m i s' hi hI hgo => by
      rw [eI] at hI
      refine br_f (nI_ge (b := 42) hi (by omega)) ⟨vp_in_nI (by omega) (by omega), nm_e (nm_r (nI_1 i) (hgo _ ?_))⟩
      rw [ix_nI (by omega), eI]
      refine ⟨hI.1.tL (by simp) _ _, fun q hq => ?_⟩
      rw [gL_sLs]
      by_cases e : q = i
      · rw [if_pos e]
      · rw [if_neg e]
        exact hI.2 q (by omega))
  refine ⟨_, m, fun s1 hI1 => nm_e ?_, hm⟩
  rw [eI] at hI1
  obtain ⟨hS1, hz1⟩ := hI1
  clear hm eI
  obtain ⟨J, eJ⟩ : ∃ J : Nat → zS → Prop, J = fun i s' => zSm [] [] [] [0] s s' ∧ MC (fun r c => if r = c ∧ r < i ∧ ¬ pU A t r = true then 1 else 0) s' := ⟨_, rfl⟩
  obtain ⟨m2, hm2⟩ := pk_loop (fun m i s' => W_X5_lays_L23 Q (J 6) m (nI i) s') J 6 0 s1 (Nat.zero_le _)
    (by
      rw [eJ]
      refine ⟨hS1, fun r c h1 h2 => ?_⟩
      dsimp only
      rw [hz1 _ (by omega), if_neg (fun q => by omega)]
      rfl)
    (fun m s' hI => br_t (nI_le (Nat.le_refl 6) (by omega)) hI)
    (fun m i s' hi hJ hgo => by
      rw [eJ] at hJ
      obtain ⟨hS2, hC2⟩ := hJ
      have hR2 := hkeep _ hS2
      have v7 : vp_in (nI (7 * i + i)) 42 := vp_in_nI (by omega) (by omega)
      have hnew : ∀ u : Int64, u = lI (if ¬ pU A t i = true then 1 else 0) → J (i + 1) (sL s' 0 (ix (nI (7 * i + i))) u) := fun u hu => by
        rw [ix_nI (by omega), eJ]
        refine ⟨hS2.tL (by simp) _ _, fun r c h1 h2 => ?_⟩
        dsimp only
        rw [gL_sLs]
        by_cases g : r = i ∧ c = i
        · rw [if_pos (by rw [g.1, g.2]), hu, g.1, g.2]
          congr 1
          exact zite ⟨fun q => ⟨rfl, by omega, q⟩, fun q => q.2.2⟩
        · rw [if_neg (by omega), hC2 r c h1 h2]
          congr 1
          exact zite ⟨fun q => ⟨q.1, by omega, q.2.2⟩, fun q => ⟨q.1, by omega, q.2.2⟩⟩
      refine br_f (nI_ge (b := 6) hi (by omega)) ⟨vp_in_nI (by omega) (by omega), ?_⟩
      rw [c7, ix_nI (n := i) (by omega), hR2.2.2 i hi, hR2.2.1]
      refine br_c (fun c => ⟨v7, nm_e (nm_r (nI_1 i) (hgo _ (hnew _ ?_)))⟩) (fun c => br_c (fun c2 => ⟨v7, nm_e (nm_r (nI_1 i) (hgo _ (hnew _ ?_)))⟩) (fun c2 => ⟨v7, nm_e (nm_r (nI_1 i) (hgo _ (hnew _ ?_)))⟩))
      · have : ¬ pU A t i = true := by unfold pU; rw [bI_0.mp c, Bool.false_and]; decide
        rw [if_pos this]
        rfl
      · have e := (nI_eq (by omega) (by omega)).mp c2
        have : ¬ pU A t i = true := by rw [e, pU_d]; decide
        rw [if_pos this]
        rfl
      · have : pU A t i = true := by
          have e : i ≠ dat A t := fun q => c2 (by rw [q])
          unfold pU
          rw [bI_n0.mp c]
          simp [e]
        rw [if_neg (fun q => q this)]
        rfl)
  refine ⟨_, m2, fun s2 hJ => nm_e ?_, hm2⟩
  rw [eJ] at hJ
  obtain ⟨hS2, hC2⟩ := hJ
  clear hm2 eJ
  obtain ⟨K, eK⟩ : ∃ K : Nat → zS → Prop, K = fun o s' => zSm [] [] [] [0] s s' ∧ MC (mF A (pP A t 14) (pU A t) o (fun _ => 0)) s' := ⟨_, rfl⟩
  obtain ⟨m3, hm3⟩ := pk_loop (fun m o s' => W_X5_lays_L70 Q (K (nko A)) m (nI o) s') K (nko A) 0 s2 (Nat.zero_le _)
    (by
      rw [eK]
      refine ⟨hS2, fun r c h1 h2 => ?_⟩
      rw [hC2 r c h1 h2]
      dsimp only
      unfold mF
      by_cases e : c = 6
      · rw [if_pos e, if_neg (fun q => by omega)]
        split <;> rfl
      · rw [if_neg e]
        by_cases g : pU A t r = true ∧ pU A t c = true
        · rw [if_pos g, if_neg (fun q => q.2.2 g.1)]
          rfl
        · rw [if_neg g]
          congr 1
          exact zite ⟨fun q => q.1, fun q => ⟨q, h1, fun q2 => g ⟨q2, by rw [← q]; exact q2⟩⟩⟩)
    (fun m s' hK => br_t (by
      rw [eK] at hK
      exact c_le (hkeep _ hK.1).1.2.1 (Nat.le_refl _) (by omega)) hK)
    (fun m o s' ho hK hgo => by
      rw [eK] at hK
      obtain ⟨hS, hC⟩ := hK
      have hR' := hkeep _ hS
      obtain ⟨f1, f2, f3, f4, f5, f6⟩ := hA.2.2.1 o ho
      obtain ⟨e2, e3, e4, e5⟩ := hR'.1.2.2.2.1 o ho
      have vo : vp_in (nI o) 14 := vp_in_nI (by omega) (by omega)
      have io : ix (nI o) = o := ix_nI (by omega)
      have hne14 : (o != 14) = true := by simp; omega
      have hskip : pP A t 14 o = false → K (o + 1) s' := fun hp => by
        rw [eK]
        refine ⟨hS, fun r c h1 h2 => ?_⟩
        rw [hC r c h1 h2]
        unfold mF
        rw [nEl_snoc, Nat.zero_add, if_neg (show ¬ pP A t 14 o = true by rw [hp]; decide), List.append_nil]
      refine br_f (c_nle hR'.1.2.1 ho (by omega)) ⟨vo, ?_⟩
      rw [io, hR'.1.2.2.2.2 o (by omega), e2, e5]
      refine nt_c (fun c => nm_r (nI_1 o) (hgo s' (hskip ?_))) (fun c => ⟨vo, vp_in_nI (by omega) (by omega), ?_⟩)
      · unfold pP
        rw [bI_n0.mp c]
        rfl
      · rw [ix_nI (by omega), hR'.2.2 _ (by omega)]
        refine br_c (fun c2 => nm_r (nI_1 o) (hgo s' (hskip ?_))) (fun c2 => ⟨vo, vo, vo, ?_⟩)
        · unfold pP
          rw [bI_0.mp c2, Bool.and_false, Bool.false_and]
        · have hp : pP A t 14 o = true := by
            unfold pP
            rw [bI_0.mp c, bI_n0.mp c2, hne14]
            rfl
          have hif : cI A (nfr A o) t = true := bI_n0.mp c2
          have hit : cI A (nto A o) t = true := by
            have := cI_edge ho (bI_0.mp c)
            rw [cI_symm] at this
            exact cI_trans this hif
          have href : pU A t (nfr A o) = true ↔ nfr A o ≠ dat A t := by unfold pU; rw [hif]; simp
          have hret : pU A t (nto A o) = true ↔ nto A o ≠ dat A t := by unfold pU; rw [hit]; simp
          rw [iI_l ⟨by omega, by omega⟩]
          refine W_adds hC hR'.2.1 (by omega) (by omega) (by omega) _ _ (fun s3 hS3 hC3 => ⟨vo, vo, vo, ?_⟩)
          have hR3 := hkeep _ (hS.tr hS3)
          obtain ⟨a2, a3, a4, a5⟩ := hR3.1.2.2.2.1 o ho
          rw [a3, a5, iI_l ⟨by omega, by omega⟩]
          refine W_adds hC3 hR3.2.1 (by omega) (by omega) (by omega) _ _ (fun s4 hS4 hC4 => ⟨vo, vo, vo, ?_⟩)
          have hR4 := hkeep _ ((hS.tr hS3).tr hS4)
          obtain ⟨b2, b3, b4, b5⟩ := hR4.1.2.2.2.1 o ho
          rw [b2, b3, b5, iI_neg, iI_l ⟨by omega, by omega⟩]
          refine W_adds hC4 hR4.2.1 (by omega) (by omega) (by omega) _ _ (fun s5 hS5 hC5 => ⟨vo, vo, vo, ?_⟩)
          have hR5 := hkeep _ (((hS.tr hS3).tr hS4).tr hS5)
          obtain ⟨d2, d3, d4, d5⟩ := hR5.1.2.2.2.1 o ho
          rw [d2, d3, d5, iI_neg, iI_l ⟨by omega, by omega⟩]
          refine W_adds hC5 hR5.2.1 (by omega) (by omega) (by omega) _ _ (fun s6 hS6 hC6 => nm_r (nI_1 o) (hgo s6 ?_))
          rw [eK]
          refine ⟨(((hS.tr hS3).tr hS4).tr hS5).tr hS6, fun r c h1 h2 => ?_⟩
          rw [hC6 r c h1 h2]
          dsimp only
          congr 1
          unfold mF
          by_cases e : c = 6
          · have k : ∀ (a b : Nat) (P : Prop), b < 6 → ¬ (r = a ∧ c = b ∧ P) := fun a b P hb q => by omega
            rw [if_pos e, if_pos e, if_neg (k (nfr A o) (nfr A o) _ (by omega)), if_neg (k (nto A o) (nto A o) _ (by omega)), if_neg (k (nfr A o) (nto A o) _ (by omega)), if_neg (k (nto A o) (nfr A o) _ (by omega))]
            simp
          · rw [if_neg e, if_neg e, nEl_snoc, Nat.zero_add, if_pos hp]
            by_cases g : pU A t r = true ∧ pU A t c = true
            · rw [if_pos g, if_pos g, Lp_app]
              simp only [Lp]
              have nr : r ≠ dat A t := fun q => by rw [q, pU_d] at g; exact absurd g.1 (by decide)
              have nc : c ≠ dat A t := fun q => by rw [q, pU_d] at g; exact absurd g.2 (by decide)
              have z1 : ∀ a b : Nat, zd a b = if a = b then 1 else 0 := fun a b => by unfold zd; exact zite ⟨Eq.symm, Eq.symm⟩
              rw [z1, z1, z1, z1]
              by_cases r1 : r = nfr A o
              · have r2 : ¬ r = nto A o := fun q => f3 (by rw [← r1, q])
                by_cases c1 : c = nfr A o
                · have c2 : ¬ c = nto A o := fun q => f3 (by rw [← c1, q])
                  rw [if_pos ⟨r1, c1, by omega, by omega⟩, if_neg (fun q => r2 q.1), if_neg (fun q => c2 q.2.1), if_neg (fun q => r2 q.1), if_pos r1, if_neg r2, if_pos c1, if_neg c2]
                  omega
                · by_cases c2 : c = nto A o
                  · rw [if_neg (fun q => c1 q.2.1), if_neg (fun q => r2 q.1), if_pos ⟨r1, c2, by omega, by omega⟩, if_neg (fun q => r2 q.1), if_pos r1, if_neg r2, if_neg c1, if_pos c2]
                    omega
                  · rw [if_neg (fun q => c1 q.2.1), if_neg (fun q => r2 q.1), if_neg (fun q => c2 q.2.1), if_neg (fun q => r2 q.1), if_pos r1, if_neg r2, if_neg c1, if_neg c2]
                    omega
              · by_cases r2 : r = nto A o
                · by_cases c1 : c = nfr A o
                  · have c2 : ¬ c = nto A o := fun q => f3 (by rw [← c1, q])
                    rw [if_neg (fun q => r1 q.1), if_neg (fun q => c2 q.2.1), if_neg (fun q => r1 q.1), if_pos ⟨r2, c1, by omega, by omega⟩, if_neg r1, if_pos r2, if_pos c1, if_neg c2]
                    omega
                  · by_cases c2 : c = nto A o
                    · rw [if_neg (fun q => r1 q.1), if_pos ⟨r2, c2, by omega, by omega⟩, if_neg (fun q => r1 q.1), if_neg (fun q => c1 q.2.1), if_neg r1, if_pos r2, if_neg c1, if_pos c2]
                      omega
                    · rw [if_neg (fun q => r1 q.1), if_neg (fun q => c2 q.2.1), if_neg (fun q => r1 q.1), if_neg (fun q => c1 q.2.1), if_neg r1, if_pos r2, if_neg c1, if_neg c2]
                      omega
                · rw [if_neg (fun q => r1 q.1), if_neg (fun q => r2 q.1), if_neg (fun q => r1 q.1), if_neg (fun q => r2 q.1), if_neg r1, if_neg r2]
                  omega
            · have k1 : ¬ (r = nfr A o ∧ c = nfr A o ∧ nfr A o ≠ dat A t ∧ nfr A o ≠ dat A t) := fun q => g ⟨by rw [q.1]; exact href.mpr q.2.2.1, by rw [q.2.1]; exact href.mpr q.2.2.1⟩
              have k2 : ¬ (r = nto A o ∧ c = nto A o ∧ nto A o ≠ dat A t ∧ nto A o ≠ dat A t) := fun q => g ⟨by rw [q.1]; exact hret.mpr q.2.2.1, by rw [q.2.1]; exact hret.mpr q.2.2.1⟩
              have k3 : ¬ (r = nfr A o ∧ c = nto A o ∧ nfr A o ≠ dat A t ∧ nto A o ≠ dat A t) := fun q => g ⟨by rw [q.1]; exact href.mpr q.2.2.1, by rw [q.2.1]; exact hret.mpr q.2.2.2⟩
              have k4 : ¬ (r = nto A o ∧ c = nfr A o ∧ nto A o ≠ dat A t ∧ nfr A o ≠ dat A t) := fun q => g ⟨by rw [q.1]; exact hret.mpr q.2.2.1, by rw [q.2.1]; exact href.mpr q.2.2.2⟩
              rw [if_neg g, if_neg g, if_neg k1, if_neg k2, if_neg k3, if_neg k4]
              omega)
  refine ⟨_, m3, fun s3 hK => ?_, hm3⟩
  rw [eK] at hK
  exact hQ s3 hK.1 hK.2
theorem W_laysDifferences {A : zNt} (hA : zok A) {s : zS} {t : Nat} (ht : t < nnn A) (hR : RP A t s) (hC0 : MC (mF A (pP A t 14) (pU A t) (nko A) (fun _ => 0)) s) (Q : zS → Prop) (hQ : ∀ s', zSm [] [] [] [0] s s' → MC (mF A (pP A t 14) (pU A t) (nko A) (Lb (pE A t 14))) s' → Q s') : W_X5_laysDifferences s Q := by
  have hn := hA.1
  have hk14 := hA.2.1
  have hd := dat_lt ht
  have hkeep : ∀ s', zSm [] [] [] [0] s s' → RP A t s' := fun s' h => hR.sm h ⟨by simp, by simp, by simp⟩ ⟨by simp, by simp, by simp, by simp, by simp, by simp, by simp⟩ (by simp)
  refine nm_e ?_
  obtain ⟨K, eK⟩ : ∃ K : Nat → zS → Prop, K = fun o s' => zSm [] [] [] [0] s s' ∧ MC (mF A (pP A t 14) (pU A t) (nko A) (Lb (nEl A (pP A t 14) 0 o))) s' := ⟨_, rfl⟩
  obtain ⟨m3, hm3⟩ := pk_loop (fun m o s' => W_X5_laysDifferences_L2 Q (K (nko A)) m (nI o) s') K (nko A) 0 s (Nat.zero_le _)
    (by
      rw [eK]
      refine ⟨zSm.rf s, fun r c h1 h2 => ?_⟩
      rw [hC0 r c h1 h2]
      rfl)
    (fun m s' hK => br_t (by
      rw [eK] at hK
      exact c_le (hkeep _ hK.1).1.2.1 (Nat.le_refl _) (by omega)) hK)
    (fun m o s' ho hK hgo => by
      rw [eK] at hK
      obtain ⟨hS, hC⟩ := hK
      have hR' := hkeep _ hS
      obtain ⟨f1, f2, f3, f4, f5, f6⟩ := hA.2.2.1 o ho
      obtain ⟨e2, e3, e4, e5⟩ := hR'.1.2.2.2.1 o ho
      have vo : vp_in (nI o) 14 := vp_in_nI (by omega) (by omega)
      have io : ix (nI o) = o := ix_nI (by omega)
      have hne14 : (o != 14) = true := by simp; omega
      have hskip : pP A t 14 o = false → K (o + 1) s' := fun hp => by
        rw [eK]
        refine ⟨hS, fun r c h1 h2 => ?_⟩
        rw [hC r c h1 h2, nEl_snoc, Nat.zero_add, if_neg (show ¬ pP A t 14 o = true by rw [hp]; decide), List.append_nil]
      refine br_f (c_nle hR'.1.2.1 ho (by omega)) ⟨vo, ?_⟩
      rw [io, hR'.1.2.2.2.2 o (by omega), e2, e3, e4, e5]
      refine nt_c (fun c => nm_r (nI_1 o) (hgo s' (hskip ?_))) (fun c => ⟨vo, vp_in_nI (by omega) (by omega), ?_⟩)
      · unfold pP
        rw [bI_n0.mp c]
        rfl
      · rw [ix_nI (by omega), hR'.2.2 _ (by omega)]
        refine br_c (fun c2 => nm_r (nI_1 o) (hgo s' (hskip ?_))) (fun c2 => ⟨vo, vo, vo, ?_⟩)
        · unfold pP
          rw [bI_0.mp c2, Bool.and_false, Bool.false_and]
        · have hp : pP A t 14 o = true := by
            unfold pP
            rw [bI_0.mp c, bI_n0.mp c2, hne14]
            rfl
          have hif : cI A (nfr A o) t = true := bI_n0.mp c2
          have hit : cI A (nto A o) t = true := by
            have := cI_edge ho (bI_0.mp c)
            rw [cI_symm] at this
            exact cI_trans this hif
          have href : pU A t (nfr A o) = true ↔ nfr A o ≠ dat A t := by unfold pU; rw [hif]; simp
          have hret : pU A t (nto A o) = true ↔ nto A o ≠ dat A t := by unfold pU; rw [hit]; simp
          rw [iI_l ⟨by omega, by omega⟩, iI_l ⟨by omega, by omega⟩, lI_mul, show (6 : Int32) = nI 6 from rfl]
          refine W_adds hC hR'.2.1 (by omega) (by omega) (by omega) _ _ (fun s3 hS3 hC3 => ⟨vo, vo, vo, ?_⟩)
          have hR3 := hkeep _ (hS.tr hS3)
          obtain ⟨a2, a3, a4, a5⟩ := hR3.1.2.2.2.1 o ho
          rw [a2, a4, a5, iI_neg, iI_l ⟨by omega, by omega⟩, iI_l ⟨by omega, by omega⟩, lI_mul]
          refine W_adds hC3 hR3.2.1 (by omega) (by omega) (by omega) _ _ (fun s6 hS6 hC6 => nm_r (nI_1 o) (hgo s6 ?_))
          rw [eK]
          refine ⟨(hS.tr hS3).tr hS6, fun r c h1 h2 => ?_⟩
          rw [hC6 r c h1 h2]
          dsimp only
          congr 1
          unfold mF
          by_cases e : c = 6
          · rw [if_pos e, if_pos e, nEl_snoc, Nat.zero_add, if_pos hp, Lb_app]
            simp only [Lb]
            have z1 : ∀ a b : Nat, zd a b = if a = b then 1 else 0 := fun a b => by unfold zd; exact zite ⟨Eq.symm, Eq.symm⟩
            rw [z1, z1]
            by_cases hg : pU A t r = true
            · simp only [if_pos hg]
              have nr : r ≠ dat A t := fun q => by rw [q, pU_d] at hg; exact absurd hg (by decide)
              by_cases r1 : r = nfr A o
              · have r2 : ¬ r = nto A o := fun q => f3 (by rw [← r1, q])
                rw [if_neg (fun q => r2 q.1), if_pos ⟨r1, e, by omega, by omega⟩, if_pos r1, if_neg r2]
                grind
              · by_cases r2 : r = nto A o
                · rw [if_pos ⟨r2, e, by omega, by omega⟩, if_neg (fun q => r1 q.1), if_neg r1, if_pos r2]
                  grind
                · rw [if_neg (fun q => r2 q.1), if_neg (fun q => r1 q.1), if_neg r1, if_neg r2]
                  grind
            · simp only [if_neg hg]
              have k1 : ¬ (r = nto A o ∧ c = 6 ∧ nto A o ≠ dat A t ∧ 6 ≠ dat A t) := fun q => hg (by rw [q.1]; exact hret.mpr q.2.2.1)
              have k2 : ¬ (r = nfr A o ∧ c = 6 ∧ nfr A o ≠ dat A t ∧ 6 ≠ dat A t) := fun q => hg (by rw [q.1]; exact href.mpr q.2.2.1)
              rw [if_neg k1, if_neg k2]
              omega
          · have k : ∀ (a : Nat) (P : Prop), ¬ (r = a ∧ c = 6 ∧ P) := fun a P q => e q.2.1
            rw [if_neg e, if_neg e, if_neg (k (nto A o) _), if_neg (k (nfr A o) _)]
            omega)
  refine ⟨_, m3, fun s3 hK => ?_, hm3⟩
  rw [eK] at hK
  exact hQ s3 hK.1 hK.2
end ZMODEL2

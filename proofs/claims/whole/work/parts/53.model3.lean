/-! THE MODEL (3): it solves, and answers -/
section ZMODEL3
abbrev zM6 : Nat → Nat → Prop := fun k m => (k ≤ m ∧ m < 6) ∨ m = 6
theorem W_solves {A : Nat → Nat → Int} {d : Nat → Int} {x : Nat → Nat → Nat → Int} (h : zbnd 6 zM6 A d x) (hd : ∀ k, k ≤ 6 → d k ≠ 0) {s : zS} {B : Nat → Bool} (hB : ∀ q, q < 6 → gF s 8 q = bI (B q)) (hC : MC A s) (Q : zS → Prop)
    (hQ : ∀ s', zSm [] [0] [] [0, 1] s s' → gJ s' 0 = lI (d 6) → (∀ q, q < 6 → gL s' 1 q = lI (if B q = true then zcell A d x 6 q 6 else 0)) → Q s') : W_X5_solves s Q := by
  have hd0 : d 0 = 1 := h.1.1
  refine nm_r (e' := lI (d 0)) (by rw [hd0]; rfl) (nm_e ?_)
  obtain ⟨I, eI⟩ : ∃ I : Nat → zS → Prop, I = fun k s' => zSm [] [0] [] [0, 1] s s' ∧ ∀ r m, r < 6 → zM6 k m → gL s' 0 (7 * r + m) = lI (zcell A d x k r m) := ⟨_, rfl⟩
  obtain ⟨m, hm⟩ := pk_loop (fun m k s' => W_X5_solves_L4 Q (fun v s' => v = lI (d 6) ∧ I 6 s') m (lI (d k)) (nI k) s') I 6 0 s (Nat.zero_le _)
    (by rw [eI]; exact ⟨zSm.rf s, fun r m hr hM => by rw [hC r m hr (by rcases hM with q | q <;> omega), zcell_0 h.1]⟩)
    (fun m s' hI => br_t (nI_le (Nat.le_refl 6) (by omega)) ⟨rfl, hI⟩)
    (fun m k s' hk hI hgo => by
      rw [eI] at hI
      obtain ⟨hS, hI1⟩ := hI
      have hMk : zM6 k k := Or.inl ⟨Nat.le_refl _, hk⟩
      have hdB := h.2.1 k (by omega)
      have hdk := hd k (by omega)
      have hne : ¬ lI (d k) = 0 := fun q => hdk ((lI_eq ⟨by omega, by omega⟩ ⟨by omega, by omega⟩ (b := 0)).mp q)
      refine br_f (nI_ge (b := 6) hk (by omega)) ?_
      rw [c7]
      refine ⟨vp_in_nI (by omega) (by omega), nm_r (e' := lI (d (k + 1))) (by rw [ix_nI (by omega), hI1 k k hk hMk, zcell_pivot h.1 hk]) (nm_e ?_)⟩
      obtain ⟨J, eJ⟩ : ∃ J : Nat → zS → Prop, J = fun r s2 => zSm [] [0] [] [0, 1] s s2 ∧ (∀ r', r' < 6 → r' ≠ k → r' < r → ∀ m, zM6 (k + 1) m → gL s2 0 (7 * r' + m) = lI (zcell A d x (k + 1) r' m)) ∧ (∀ r', r' < 6 → r ≤ r' ∨ r' = k → ∀ m, zM6 k m → gL s2 0 (7 * r' + m) = lI (zcell A d x k r' m)) := ⟨_, rfl⟩
      obtain ⟨m2, hm2⟩ := pk_loop (fun m r s2 => W_X5_solves_L26 (lI (d k)) (nI k) (lI (d (k + 1))) Q (J 6) m (nI r) s2) J 6 0 s' (Nat.zero_le _)
        (by rw [eJ]; exact ⟨hS, fun r' _ _ q => by omega, fun r' hr' _ m hM => hI1 r' m hr' hM⟩)
        (fun m s2 hJ => br_t (nI_le (Nat.le_refl 6) (by omega)) hJ)
        (fun m r s2 hr hJ hgo2 => by
          rw [eJ] at hJ
          obtain ⟨hS2, hJ1, hJ2⟩ := hJ
          refine br_f (nI_ge (b := 6) hr (by omega)) ?_
          rw [c7]
          refine ⟨vp_in_nI (by omega) (by omega), nm_r (e' := lI (zcell A d x k r k)) (by rw [ix_nI (by omega), hJ2 r hr (Or.inl (Nat.le_refl _)) k hMk]) (nm_e ?_)⟩
          by_cases erk : r = k
          · refine ⟨fun s3 => s3 = s2, 1, fun s3 e3 => nm_r (nI_1 r) (hgo2 s3 ?_), br_f (nI_ge (a := 0) (b := 7) (by omega) (by omega)) (br_t (by rw [erk]) rfl)⟩
            rw [e3, eJ]
            exact ⟨hS2, fun r' h1 h2 h3 => hJ1 r' h1 h2 (by omega), fun r' h1 h2 => hJ2 r' h1 (by omega)⟩
          · obtain ⟨K, eK⟩ : ∃ K : Nat → zS → Prop, K = fun c s3 => zSm [] [0] [] [0, 1] s s3 ∧ (∀ m, m < c → zM6 (k + 1) m → gL s3 0 (7 * r + m) = lI (zcell A d x (k + 1) r m)) ∧ (∀ m, c ≤ m → m < 7 → gL s3 0 (7 * r + m) = gL s2 0 (7 * r + m)) ∧ (∀ r' m, r' ≠ r → m < 7 → gL s3 0 (7 * r' + m) = gL s2 0 (7 * r' + m)) := ⟨_, rfl⟩
            obtain ⟨m3, hm3⟩ := pk_loop (fun m c s3 => W_X5_solves_L50 (lI (d k)) (nI k) (lI (d (k + 1))) (nI r) (lI (zcell A d x k r k)) Q (K 7) m (nI c) s3) K 7 0 s2 (Nat.zero_le _)
              (by rw [eK]; exact ⟨hS2, fun m hm => by omega, fun _ _ _ => rfl, fun _ _ _ _ => rfl⟩)
              (fun m s3 hK => br_t (nI_le (Nat.le_refl 7) (by omega)) hK)
              (fun m c s3 hc hK hgo3 => by
                rw [eK] at hK
                obtain ⟨hS3, hK1, hK2, hK3⟩ := hK
                refine br_f (nI_ge (b := 7) hc (by omega)) (br_f (fun q => erk ((nI_eq (by omega) (by omega)).mp q)) (nm_r (c7 r c) ?_))
                rw [c7]
                refine ⟨vp_in_nI (by omega) (by omega), vp_in_nI (by omega) (by omega), hne, vp_in_nI (by omega) (by omega), nm_e (nm_r (nI_1 c) (hgo3 _ ?_))⟩
                rw [ix_nI (by omega), ix_nI (by omega), eK]
                refine ⟨hS3.tL (by simp) _ _, fun m hm hM => ?_, fun m hm hm7 => ?_, fun r' m hr' hm7 => ?_⟩
                · rw [gL_sLs]
                  by_cases e : m = c
                  · subst e
                    have hM' : zM6 k m := by
                      rcases hM with q | q
                      · exact Or.inl ⟨by omega, q.2⟩
                      · exact Or.inr q
                    rw [if_pos rfl, hK2 m (Nat.le_refl _) hc, hJ2 r hr (Or.inl (Nat.le_refl _)) m hM', hK3 k m (fun q => erk q.symm) hc, hJ2 k hk (Or.inr rfl) m hM']
                    exact zstep_div h hk hr erk hM hdk (hd (k + 1) (by omega))
                  · rw [if_neg (by omega)]
                    exact hK1 m (by omega) hM
                · rw [gL_sLs, if_neg (by omega)]
                  exact hK2 m (by omega) hm7
                · rw [gL_sLs, if_neg (by omega)]
                  exact hK3 r' m hr' hm7)
            refine ⟨_, m3, fun s3 hK => nm_r (nI_1 r) (hgo2 s3 ?_), hm3⟩
            rw [eK] at hK
            obtain ⟨hS3, hK1, hK2, hK3⟩ := hK
            rw [eJ]
            refine ⟨hS3, fun r' h1 h2 h3 m hM => ?_, fun r' h1 h2 m hM => ?_⟩
            · have hm7 : m < 7 := by rcases hM with q | q <;> omega
              by_cases e : r' = r
              · rw [e]
                exact hK1 m hm7 hM
              · rw [hK3 r' m e hm7]
                exact hJ1 r' h1 h2 (by omega) m hM
            · rw [hK3 r' m (by omega) (by rcases hM with q | q <;> omega)]
              exact hJ2 r' h1 (by omega) m hM)
      refine ⟨_, m2, fun s3 hJ => nm_e (nm_r (nI_1 k) (hgo s3 ?_)), hm2⟩
      rw [eJ] at hJ
      rw [eI]
      refine ⟨hJ.1, fun r m hr hM => ?_⟩
      by_cases e : r = k
      · rw [e, zstep_p h.1 hk hdk (hd (k + 1) (by omega)) hM]
        refine hJ.2.2 k hk (Or.inr rfl) m ?_
        rcases hM with q | q
        · exact Or.inl ⟨by omega, q.2⟩
        · exact Or.inr q
      · exact hJ.2.1 r hr e hr m hM)
  refine ⟨_, m, fun v s1 hv => nm_e (nm_e ?_), hm⟩
  obtain ⟨rfl, hI⟩ := hv
  rw [eI] at hI
  obtain ⟨hS1, hc1⟩ := hI
  have hS1' : zSm [] [0] [] [0, 1] s (sJ s1 0 (lI (d 6))) := hS1.tJ (by simp) _
  obtain ⟨L, eL⟩ : ∃ L : Nat → zS → Prop, L = fun i s' => zSm [] [0] [] [0, 1] s s' ∧ gJ s' 0 = lI (d 6) ∧ (∀ q, gL s' 0 q = gL s1 0 q) ∧ ∀ q, q < i → gL s' 1 q = lI (if B q = true then zcell A d x 6 q 6 else 0) := ⟨_, rfl⟩
  obtain ⟨m5, hm5⟩ := pk_loop (fun m i s' => W_X5_solves_L136 Q (L 6) m (nI i) s') L 6 0 (sJ s1 0 (lI (d 6))) (Nat.zero_le _)
    (by rw [eL]; exact ⟨hS1', rfl, fun _ => rfl, fun q hq => by omega⟩)
    (fun m s' hL => br_t (nI_le (Nat.le_refl 6) (by omega)) hL)
    (fun m i s' hi hL hgo => by
      rw [eL] at hL
      obtain ⟨hS, hJ, h0, hL1⟩ := hL
      have vi : vp_in (nI i) 6 := vp_in_nI (by omega) (by omega)
      have hnew : ∀ u : Int64, u = lI (if B i = true then zcell A d x 6 i 6 else 0) → L (i + 1) (sL s' 1 i u) := fun u hu => by
        rw [eL]
        refine ⟨hS.tL (by simp) _ _, hJ, fun q => by rw [gL_sLn _ (by decide)]; exact h0 q, fun q hq => ?_⟩
        rw [gL_sLs]
        by_cases e : q = i
        · rw [if_pos e, hu, e]
        · rw [if_neg e]
          exact hL1 q (by omega)
      refine br_f (nI_ge (b := 6) hi (by omega)) ⟨vi, ?_⟩
      rw [ix_nI (by omega), hS.2.2.1 8 (by simp), hB i hi, show (6 : Int32) = nI 6 from rfl, c7]
      refine br_c (fun c => ⟨vi, nm_e (nm_r (nI_1 i) (hgo _ (hnew _ ?_)))⟩) (fun c => ⟨vp_in_nI (by omega) (by omega), vi, nm_e (nm_r (nI_1 i) (hgo _ (hnew _ ?_)))⟩)
      · rw [if_neg (by rw [bI_0.mp c]; decide)]
        rfl
      · rw [if_pos (bI_n0.mp c), ix_nI (by omega), h0]
        exact hc1 i 6 hi (Or.inr rfl))
  refine ⟨_, m5, fun s' hL => ?_, hm5⟩
  rw [eL] at hL
  exact hQ s' hL.1 hL.2.1 hL.2.2.2
theorem m_row {A : zNt} (hA : zok A) {t : Nat} (ht : t < nnn A) : zrow (pS A t) (dat A t) 6 (fun i => i) (pU A t) 6 :=
  ⟨Nat.le_refl _, Nat.le_refl _, fun i _ h => pU_S hA ht h, fun _ _ _ _ _ _ e => e⟩
theorem m_zU {A : zNt} (hA : zok A) {t : Nat} (ht : t < nnn A) : zU (fun i => i) (pU A t) 6 = pU A t := by
  funext s
  refine Bool.eq_iff_iff.mpr ((zU_iff _ _ _ _).trans ⟨fun ⟨i, h1, h2, h3⟩ => by rw [← h3]; exact h2, fun h => ⟨s, ?_, h, rfl⟩⟩)
  have h1 := (pS_in.mp (pU_S hA ht h).1).1
  have := hA.1
  omega
theorem m_d {A : zNt} (hA : zok A) {t : Nat} (ht : t < nnn A) : ∀ k, k ≤ 6 → TD (pS A t) (pE A t 14) (lU (zU (fun i => i) (pU A t) k) (dat A t)) ≠ 0 := by
  intro k hk h0
  have hpos := pT_pos hA ht
  have hr := m_row hA ht
  have h6 : TD (pS A t) (pE A t 14) (lU (zU (fun i => i) (pU A t) 6) (dat A t)) = pT A t 14 := by rw [m_zU hA ht]; rfl
  have := TD_mono (S := pS A t) (E := pE A t 14) (lab := lU (zU (fun i => i) (pU A t) k) (dat A t)) (lab' := lU (zU (fun i => i) (pU A t) 6) (dat A t)) (fun e he => (pE_w hA e he).1) (fun s t' => lU_mono (zrow_d hr hk) (zrow_d hr (Nat.le_refl 6)) (fun s => zU_mono _ _ hk s) s t') (by omega)
  omega
theorem mF_zA {A : zNt} {t : Nat} (G : Nat → Int) (r c : Nat) : mF A (pP A t 14) (pU A t) (nko A) G r c = zA (pE A t 14) (fun i => i) (pU A t) 6 G r c := by
  unfold mF zA pE
  rfl
/-- the heights of the part are found -/
def RF (A : zNt) (t : Nat) (s : zS) : Prop := RP A t s ∧ gJ s 0 = lI (pT A t 14) ∧ ∀ q, q < 6 → gL s 1 q = lI (pR0 A t q)
abbrev zScm (s s' : zS) : Prop := zSm [4] [0] [8] [0, 1] s s'
theorem W_finds {A : zNt} (hA : zok A) {s : zS} (hR : RM A s) {t : Nat} (ht : t < nnn A) (Q : zS → Prop) (hQ : ∀ s', zScm s s' → RF A t s' → Q s') : W_X5_finds s (nI t) Q := by
  refine W_reaches hA hR ht _ (fun s1 hS1 hP1 => ?_)
  have k1 : zScm s s1 := hS1.mono (by simp) (by simp) (by simp) (by simp)
  refine W_lays hA ht hP1 _ (fun s2 hS2 hC2 => ?_)
  have hP2 : RP A t s2 := hP1.sm hS2 ⟨by simp, by simp, by simp⟩ ⟨by simp, by simp, by simp, by simp, by simp, by simp, by simp⟩ (by simp)
  have k2 : zScm s s2 := k1.tr (hS2.mono (by simp) (by simp) (by simp) (by simp))
  refine W_laysDifferences hA ht hP2 hC2 _ (fun s3 hS3 hC3 => ?_)
  have hP3 : RP A t s3 := hP2.sm hS3 ⟨by simp, by simp, by simp⟩ ⟨by simp, by simp, by simp, by simp, by simp, by simp, by simp⟩ (by simp)
  have k3 : zScm s s3 := k2.tr (hS3.mono (by simp) (by simp) (by simp) (by simp))
  have hC3' : MC (zA (pE A t 14) (fun i => i) (pU A t) 6 (Lb (pE A t 14))) s3 := fun r c h1 h2 => by rw [hC3 r c h1 h2, mF_zA]
  refine W_solves (zbndD (pE_lim hA (w := 14) ht) (pE_d hA) (m_row hA ht)) (m_d hA ht) hP3.2.2 hC3' _ (fun s4 hS4 hJ hL => ?_)
  refine hQ s4 (k3.tr (hS4.mono (by simp) (by simp) (by simp) (by simp))) ⟨hP3.sm hS4 ⟨by simp, by simp, by simp⟩ ⟨by simp, by simp, by simp, by simp, by simp, by simp, by simp⟩ (by simp), ?_, fun q hq => ?_⟩
  · rw [hJ, m_zU hA ht]
    rfl
  · rw [hL q hq]
    congr 1
    unfold pR0
    by_cases c : pU A t q = true
    · have ci : cI A q t = true := by
        unfold pU at c
        simp only [Bool.and_eq_true] at c
        exact c.1
      rw [if_pos c, if_pos ci]
      unfold zcell
      rw [if_pos hq]
      unfold zx
      rw [if_pos c, if_pos rfl]
      unfold xbD
      rw [m_zU hA ht]
      rfl
    · rw [if_neg c]
      unfold zcell
      rw [if_pos hq]
      unfold zx
      rw [if_neg c]
      split <;> rfl
theorem W_heightOfM {A : zNt} (hA : zok A) {s : zS} (hR : RM A s) {t : Nat} (ht : t < nnn A) (Q : Int64 → zS → Prop) (hQ : ∀ s', zScm s s' → RM A s' → Q (lI (aHgt A t)) s') : W_X5_heightOf s (nI t) Q := by
  have hn := hA.1
  have hd := dat_lt ht
  have hT := pT_lim hA (w := 14) ht
  have hp := pT_pos hA ht
  have hr := pR0_le hA ht t
  obtain ⟨g1, g2⟩ := hA.2.2.2.1 (dat A t) (by omega)
  refine W_finds hA hR ht _ (fun s' hS hF => ?_)
  obtain ⟨hP, hJ, hL⟩ := hF
  rw [hP.2.1]
  refine ⟨vp_in_nI (by omega) (by omega), vp_in_nI (by omega) (by omega), ?_⟩
  rw [ix_nI (by omega), ix_nI (by omega), hL t (by omega), (hP.1.2.2.1 _ (by omega)).2, hJ, iI_l ⟨by omega, by omega⟩, lI_100, lI_mul, lI_mul]
  refine W_floor ⟨by omega, by omega⟩ hp ⟨by omega, by omega⟩ _ ?_
  rw [lI_add]
  have e : 100 * nth A (dat A t) + 100 * pR0 A t t / pT A t 14 = aHgt A t := by
    unfold aHgt
    rw [show 100 * (pR0 A t t + nth A (dat A t) * pT A t 14) = 100 * pR0 A t t + (100 * nth A (dat A t)) * pT A t 14 by grind, Int.add_mul_ediv_right _ _ (by omega)]
    omega
  rw [e]
  exact hQ s' hS hP.1
theorem W_apart {A : zNt} (hA : zok A) {s : zS} (hR : RM A s) {o : Nat} (ho : o < nko A) (Q : Int64 → zS → Prop) (hQ : ∀ s', zScm s s' → RF A (nfr A o) s' → Q (lI (aMis A o)) s') : W_X5_apart s (nI o) Q := by
  have hn := hA.1
  have hk := hA.2.1
  obtain ⟨f1, f2, f3, f4, f5, f6⟩ := hA.2.2.1 o ho
  have vo : vp_in (nI o) 14 := vp_in_nI (by omega) (by omega)
  refine ⟨vo, ?_⟩
  rw [ix_nI (by omega), (hR.2.2.2.1 o ho).1]
  refine W_finds hA hR f1 _ (fun s' hS hF => ?_)
  obtain ⟨e2, e3, e4, e5⟩ := hF.1.1.2.2.2.1 o ho
  rw [e2, e3, e4]
  refine ⟨vo, vp_in_nI (by omega) (by omega), vo, vp_in_nI (by omega) (by omega), vo, ?_⟩
  rw [ix_nI (by omega), ix_nI (by omega), hF.2.2 _ (by omega), hF.2.2 _ (by omega), hF.2.1, iI_l ⟨by omega, by omega⟩, lI_sub, lI_mul, lI_sub]
  exact hQ s' hS hF
theorem W_checkOfM {A : zNt} (hA : zok A) {s : zS} (hR : RM A s) {o : Nat} (ho : o < nko A) (hw : nwd A o = false) (Q : Int32 → zS → Prop) (hQ : ∀ s', zScm s s' → RM A s' → Q (iI (aChk A o)) s') : W_X5_checkOf s (nI o) Q := by
  have hn := hA.1
  have hk := hA.2.1
  obtain ⟨f1, f2, f3, f4, f5, f6⟩ := hA.2.2.1 o ho
  have hd := dat_lt f1
  have hif : cI A (nfr A o) (nfr A o) = true := cI_rfl A _
  have hit : cI A (nto A o) (nfr A o) = true := by
    have := cI_edge ho hw
    rw [cI_symm] at this
    exact this
  have vo : vp_in (nI o) 14 := vp_in_nI (by omega) (by omega)
  refine ⟨vo, ?_⟩
  rw [ix_nI (by omega), (hR.2.2.2.1 o ho).1]
  refine W_reaches hA hR f1 _ (fun s1 hS1 hP1 => ?_)
  have k1 : zScm s s1 := hS1.mono (by simp) (by simp) (by simp) (by simp)
  refine W_lays hA f1 hP1 _ (fun s2 hS2 hC2 => ⟨vo, ?_⟩)
  have hP2 : RP A (nfr A o) s2 := hP1.sm hS2 ⟨by simp, by simp, by simp⟩ ⟨by simp, by simp, by simp, by simp, by simp, by simp, by simp⟩ (by simp)
  have k2 : zScm s s2 := k1.tr (hS2.mono (by simp) (by simp) (by simp) (by simp))
  rw [(hP2.1.2.2.2.1 o ho).2.1, show (6 : Int32) = nI 6 from rfl, lI_1]
  refine W_adds hC2 hP2.2.1 (by omega) (by omega) (by omega) _ _ (fun s3 hS3 hC3 => ⟨vo, ?_⟩)
  have hP3 : RP A (nfr A o) s3 := hP2.sm hS3 ⟨by simp, by simp, by simp⟩ ⟨by simp, by simp, by simp, by simp, by simp, by simp, by simp⟩ (by simp)
  have k3 : zScm s s3 := k2.tr (hS3.mono (by simp) (by simp) (by simp) (by simp))
  rw [(hP3.1.2.2.2.1 o ho).1, lI_neg]
  refine W_adds hC3 hP3.2.1 (by omega) (by omega) (by omega) _ _ (fun s4 hS4 hC4 => ?_)
  have hP4 : RP A (nfr A o) s4 := hP3.sm hS4 ⟨by simp, by simp, by simp⟩ ⟨by simp, by simp, by simp, by simp, by simp, by simp, by simp⟩ (by simp)
  have k4 : zScm s s4 := k3.tr (hS4.mono (by simp) (by simp) (by simp) (by simp))
  have href : pU A (nfr A o) (nfr A o) = true ↔ nfr A o ≠ dat A (nfr A o) := by unfold pU; rw [hif]; simp
  have hret : pU A (nfr A o) (nto A o) = true ↔ nto A o ≠ dat A (nfr A o) := by unfold pU; rw [hit]; simp
  have hC4' : MC (zA (pE A (nfr A o) 14) (fun i => i) (pU A (nfr A o)) 6 (fun r => zd r (nto A o) - zd r (nfr A o))) s4 := fun r c h1 h2 => by
    rw [hC4 r c h1 h2]
    dsimp only
    congr 1
    rw [← mF_zA]
    unfold mF
    by_cases e : c = 6
    · rw [if_pos e, if_pos e]
      have z1 : ∀ a b : Nat, zd a b = if a = b then 1 else 0 := fun a b => by unfold zd; exact zite ⟨Eq.symm, Eq.symm⟩
      by_cases hg : pU A (nfr A o) r = true
      · simp only [if_pos hg]
        have nr : r ≠ dat A (nfr A o) := fun q => by rw [q, pU_d] at hg; exact absurd hg (by decide)
        rw [z1, z1]
        by_cases r1 : r = nfr A o
        · have r2 : ¬ r = nto A o := fun q => f3 (by rw [← r1, q])
          rw [if_neg (fun q => r2 q.1), if_pos ⟨r1, e, by omega, by omega⟩, if_neg r2, if_pos r1]
          omega
        · by_cases r2 : r = nto A o
          · rw [if_pos ⟨r2, e, by omega, by omega⟩, if_neg (fun q => r1 q.1), if_pos r2, if_neg r1]
            omega
          · rw [if_neg (fun q => r2 q.1), if_neg (fun q => r1 q.1), if_neg r2, if_neg r1]
            omega
      · simp only [if_neg hg]
        have k1 : ¬ (r = nto A o ∧ c = 6 ∧ nto A o ≠ dat A (nfr A o) ∧ 6 ≠ dat A (nfr A o)) := fun q => hg (by rw [q.1]; exact hret.mpr q.2.2.1)
        have k2 : ¬ (r = nfr A o ∧ c = 6 ∧ nfr A o ≠ dat A (nfr A o) ∧ 6 ≠ dat A (nfr A o)) := fun q => hg (by rw [q.1]; exact href.mpr q.2.2.1)
        rw [if_neg k1, if_neg k2]
        omega
    · have k : ∀ (a : Nat) (P : Prop), ¬ (r = a ∧ c = 6 ∧ P) := fun a P q => e q.2.1
      rw [if_neg e, if_neg e, if_neg (k (nto A o) _), if_neg (k (nfr A o) _)]
      omega
  refine W_solves (zbnd1 hA ho hw (m_row hA f1)) (m_d hA f1) hP4.2.2 hC4' _ (fun s5 hS5 hJ hL => ?_)
  have hP5 : RP A (nfr A o) s5 := hP4.sm hS5 ⟨by simp, by simp, by simp⟩ ⟨by simp, by simp, by simp, by simp, by simp, by simp, by simp⟩ (by simp)
  have k5 : zScm s s5 := k4.tr (hS5.mono (by simp) (by simp) (by simp) (by simp))
  obtain ⟨e2, e3, e4, e5⟩ := hP5.1.2.2.2.1 o ho
  rw [m_zU hA f1] at hJ
  have hJ' : gJ s5 0 = lI (pT A (nfr A o) 14) := hJ
  -- what is found
  have hfound : ∀ q, q ∈ pS A (nfr A o) → gL s5 1 q = lI (xb1 A (nfr A o) o (fun i => i) (pU A (nfr A o)) 6 q) := fun q hq => by
    have hq6 := pS_lt hA q hq
    rw [hL q hq6, if_pos (pS_in.mp hq).2]
    congr 1
    unfold zcell
    rw [if_pos hq6]
    unfold zx
    by_cases c : pU A (nfr A o) q = true
    · rw [if_pos c, if_pos rfl]
    · rw [if_neg c]
      unfold xb1
      have hc : zU (fun i => i) (pU A (nfr A o)) 6 q = false := by
        rw [m_zU hA f1]
        cases hh : pU A (nfr A o) q
        · rfl
        · exact absurd hh c
      rw [TP_fixed (zrow_d (m_row hA f1) (Nat.le_refl 6)) hc, Int.sub_self, Int.zero_mul, Int.zero_ediv]
  have hfS : nfr A o ∈ pS A (nfr A o) := pS_in.mpr ⟨f1, hif⟩
  have htS : nto A o ∈ pS A (nfr A o) := pS_in.mpr ⟨f2, hit⟩
  have hhas : nwt A o * (xb1 A (nfr A o) o (fun i => i) (pU A (nfr A o)) 6 (nto A o) - xb1 A (nfr A o) o (fun i => i) (pU A (nfr A o)) 6 (nfr A o)) = pT A (nfr A o) 14 - pT A (nfr A o) o := by
    rw [Int.mul_sub, xb1_mul, xb1_mul, ← TP_sub, m_zU hA f1]
    unfold pE1
    rw [n1_has _ A o _ (pP_o hA ho hw)]
    unfold pT
    rw [pE_w14 hA (nfr A o) o]
    rfl
  rw [e2, e3, e5]
  refine ⟨vo, vo, vp_in_nI (by omega) (by omega), vo, vp_in_nI (by omega) (by omega), nm_r (e' := lI (pT A (nfr A o) 14 - pT A (nfr A o) o)) ?_ ?_⟩
  · rw [ix_nI (by omega), ix_nI (by omega), hfound _ hfS, hfound _ htS, iI_l ⟨by omega, by omega⟩, lI_sub, lI_mul, hhas]
  · have hT := pT_lim hA (w := 14) f1
    have hTo := pT_lim hA (w := o) f1
    rw [hJ', lI_sub, lI_1000, lI_mul, show pT A (nfr A o) 14 - (pT A (nfr A o) 14 - pT A (nfr A o) o) = pT A (nfr A o) o by omega]
    refine W_floor ⟨by omega, by omega⟩ (pT_pos hA f1) ⟨by omega, by omega⟩ _ ?_
    rw [lI_i]
    exact hQ s5 k5 hP5.1
theorem W_scoreOfM {A : zNt} (hA : zok A) {s : zS} (hR : RM A s) {o : Nat} (ho : o < nko A) (hw : nwd A o = false) (Q : Int64 → zS → Prop) (hQ : ∀ s', zScm s s' → RM A s' → Q (lI (aScr A o)) s') : W_X5_scoreOf s (nI o) Q := by
  have hn := hA.1
  have hk := hA.2.1
  obtain ⟨f1, f2, f3, f4, f5, f6⟩ := hA.2.2.1 o ho
  have hT := pT_lim hA (w := 14) f1
  have hp := pT_pos hA f1
  have hm := aMis_le hA ho
  have hc := aChk_le hA ho
  have hsq := aSq_le hA ho
  have hnum := aNum_le hA ho
  refine W_checkOfM hA hR ho hw _ (fun s1 hS1 hR1 => nm_e ?_)
  have h0 : iI (aChk A o) = 0 ↔ aChk A o = 0 := iI_eq (b := 0) ⟨by omega, by omega⟩ ⟨by omega, by omega⟩
  refine nt_c (fun c => ?_) (fun c => ?_)
  · have c2 : aChk A o ≠ 0 := fun q => c (h0.mpr q)
    refine W_apart hA hR1 ho _ (fun s2 hS2 hF2 => ?_)
    have hQ' := hQ s2 (hS1.tr hS2) hF2.1.1
    unfold aScr at hQ'
    rw [if_neg c2] at hQ'
    have h00 : (0 : Int64) ≤ lI (aMis A o) ↔ 0 ≤ aMis A o := lI_le (a := 0) ⟨by omega, by omega⟩ ⟨by omega, by omega⟩
    have hTne : ¬ lI (pT A (nfr A o) 14) = 0 := fun q => by
      have := (lI_eq (b := 0) ⟨by omega, by omega⟩ ⟨by omega, by omega⟩).mp q
      omega
    have hCne : ¬ lI (aChk A o) = 0 := fun q => by
      have := (lI_eq (b := 0) ⟨by omega, by omega⟩ ⟨by omega, by omega⟩).mp q
      omega
    have key : ∀ z : Int64, z = lI (if 0 < aMis A o then aMis A o else - aMis A o) → (∀ x11 : Int64, x11 = z → ¬ (gJ s2 0) = 0 ∧ ∀ x13 : Int64, x13 = ((100 * x11) / (gJ s2 0)) → vp_in (nI o) 14 ∧ ¬ ((iI (aChk A o)).toInt64) = 0 ∧ Q (((x13 * x13) * ((gF s2 5 (ix (nI o)))).toInt64) / (iI (aChk A o)).toInt64) s2) := fun z hz => by
      refine nm_r hz ?_
      rw [hF2.2.1, iI_l (a := aChk A o) ⟨by omega, by omega⟩, ix_nI (by omega), (hF2.1.1.2.2.2.1 o ho).2.2.2, iI_l (a := nwt A o) ⟨by omega, by omega⟩]
      refine ⟨hTne, nm_r (e' := lI (aNum A o)) ?_ ⟨vp_in_nI (by omega) (by omega), hCne, ?_⟩⟩
      · rw [lI_100, lI_mul, lI_div ⟨by split <;> omega, by split <;> omega⟩ hp ⟨by omega, by omega⟩, Int.tdiv_eq_ediv_of_nonneg (by split <;> omega)]
        rfl
      · rw [lI_mul, lI_mul, lI_div ⟨by omega, by omega⟩ (by omega) ⟨by omega, by omega⟩, Int.tdiv_eq_ediv_of_nonneg hsq.1]
        exact hQ'
    refine br_c (fun g => key _ ?_) (fun g => key _ ?_)
    · have g2 := h00.mp g
      by_cases g3 : 0 < aMis A o
      · rw [if_pos g3]
      · rw [if_neg g3, show aMis A o = 0 by omega]
        rfl
    · have g2 : ¬ 0 ≤ aMis A o := fun q => g (h00.mpr q)
      rw [if_neg (by omega), lI_neg]
  · have hQ' := hQ s1 hS1 hR1
    unfold aScr at hQ'
    rw [if_pos (h0.mp c)] at hQ'
    exact hQ'
theorem W_worstOf {A : zNt} (hA : zok A) {s : zS} (hR : RM A s) (Q : Int32 → zS → Prop) (hQ : ∀ s', zScm s s' → RM A s' → Q (iI (aWst A (nko A)).1) s') : W_X5_worstOf s Q := by
  have hk := hA.2.1
  refine nm_e (nm_e (nm_e ?_))
  obtain ⟨I, eI⟩ : ∃ I : Nat → zS → Prop, I = fun _ s' => zScm s s' ∧ RM A s' := ⟨_, rfl⟩
  obtain ⟨m, hm⟩ := pk_loop (fun m o s' => W_X5_worstOf_L7 Q (fun v s' => v = iI (aWst A (nko A)).1 ∧ I (nko A) s') m (iI (aWst A o).1) (lI (aWst A o).2) (nI o) s') I (nko A) 0 s (Nat.zero_le _)
    (by rw [eI]; exact ⟨zSm.rf s, hR⟩)
    (fun m s' hI => br_t (by
      rw [eI] at hI
      exact c_le hI.2.2.1 (Nat.le_refl _) (by omega)) ⟨rfl, hI⟩)
    (fun m o s' ho hI hgo => by
      rw [eI] at hI
      obtain ⟨hS, hR'⟩ := hI
      have hs := aScr_le hA ho
      have hw := aWst_le hA o (by omega)
      refine br_f (c_nle hR'.2.1 ho (by omega)) ⟨vp_in_nI (by omega) (by omega), fun v s2 => v = lI (if nwd A o = true then 0 else aScr A o) ∧ I (o + 1) s2, fun v s2 hv => nm_e ?_, ?_⟩
      · obtain ⟨rfl, hI2⟩ := hv
        have hle : lI (if nwd A o = true then 0 else aScr A o) ≤ lI (aWst A o).2 ↔ (if nwd A o = true then 0 else aScr A o) ≤ (aWst A o).2 := lI_le ⟨by split <;> omega, by split <;> omega⟩ ⟨by omega, by omega⟩
        have hg := hgo s2 hI2
        simp only [aWst] at hg
        refine ⟨fun u => u = iI (aWst A (o + 1)).1, fun u hu => nm_r hu ?_, ?_⟩
        · simp only [aWst]
          refine br_c (fun c => nm_e (nm_r (nI_1 o) ?_)) (fun c => nm_e (nm_r (nI_1 o) ?_))
          · rw [if_pos (hle.mp c)] at hg ⊢
            exact hg
          · rw [if_neg (fun q => c (hle.mpr q))] at hg ⊢
            exact hg
        · simp only [aWst]
          refine br_c (fun c => ?_) (fun c => ?_)
          · rw [if_pos (hle.mp c)]
          · rw [if_neg (fun q => c (hle.mpr q))]
            exact nI_iI o
      · rw [ix_nI (by omega), hR'.2.2.2.2 o (by omega)]
        refine br_c (fun c => W_scoreOfM hA hR' ho (bI_0.mp c) _ (fun s2 hS2 hR2 => ⟨?_, ?_⟩)) (fun c => ⟨?_, ?_⟩)
        · rw [if_neg (by rw [bI_0.mp c]; decide)]
        · rw [eI]
          exact ⟨hS.tr hS2, hR2⟩
        · rw [if_pos (bI_n0.mp c)]
          rfl
        · rw [eI]
          exact ⟨hS, hR'⟩)
  refine ⟨_, m, fun v s' hv => ?_, hm⟩
  obtain ⟨rfl, hI⟩ := hv
  rw [eI] at hI
  exact hQ s' hI.1 hI.2
end ZMODEL3

/-! THE CLASS SOLVES THE EQUATIONS OF A PART: elimination -/
section ZELIM
abbrev zM5 (u : Nat) : Nat → Nat → Prop := fun k m => (k ≤ m ∧ m < u) ∨ m = 5
theorem zstep_div {n : Nat} {M : Nat → Nat → Prop} {A : Nat → Nat → Int} {d : Nat → Int} {x : Nat → Nat → Nat → Int} (h : zbnd n M A d x) {k r m : Nat} (hk : k < n) (hr : r < n) (hrk : r ≠ k) (hm : M (k + 1) m) (hd : d k ≠ 0) (hd1 : d (k + 1) ≠ 0) :
    (lI (d (k + 1)) * lI (zcell A d x k r m) - lI (zcell A d x k r k) * lI (zcell A d x k k m)) / lI (d k) = lI (zcell A d x (k + 1) r m) := by
  obtain ⟨h1, h2, h3⟩ := h
  obtain ⟨d0, d9⟩ := h2 k (by omega)
  have hz := h3 (k + 1) r m hk hr hm
  have hs := zstep h1 hk hd1 hm hrk
  have hb := zmul_le (a := d k) (b := zcell A d x (k + 1) r m) (A := 6256250) (B := 312781218750) ⟨by omega, d9⟩ hz
  rw [lI_mul, lI_mul, lI_sub, ← hs, lI_div ⟨by omega, by omega⟩ (by omega) ⟨by omega, by omega⟩, Int.mul_tdiv_cancel_left _ hd]
theorem W_clearColumn {u : Nat} {A : Nat → Nat → Int} {d : Nat → Int} {x : Nat → Nat → Nat → Int} (h : zbnd u (zM5 u) A d x) (hu : u ≤ 5) {k r : Nat} (hk : k < u) (hr : r < u) (hrk : r ≠ k) (hd : d k ≠ 0) (hd1 : d (k + 1) ≠ 0) {s : zS}
    (hp : ∀ m, zM5 u k m → gL s k m = lI (zcell A d x k k m)) (hrow : ∀ m, zM5 u k m → gL s r m = lI (zcell A d x k r m)) (Q : zS → Prop)
    (hQ : ∀ s', zSm [] [] [] [r] s s' → (∀ m, zM5 u (k + 1) m → gL s' r m = lI (zcell A d x (k + 1) r m)) → Q s') : W_X0_clearColumn s (nI r) (nI k) (lI (d k)) Q := by
  have ir : ix (nI r) = r := ix_nI (by omega)
  have ik : ix (nI k) = k := ix_nI (by omega)
  have vr5 : vp_in (nI r) 5 := vp_in_nI (by omega) (by omega)
  have vk5 : vp_in (nI k) 5 := vp_in_nI (by omega) (by omega)
  have vk6 : vp_in (nI k) 6 := vp_in_nI (by omega) (by omega)
  have hdB := h.2.1 k (by omega)
  have hne : ¬ lI (d k) = 0 := fun q => hd ((lI_eq ⟨by omega, by omega⟩ ⟨by omega, by omega⟩ (b := 0)).mp q)
  refine ⟨vk5, vk6, nm_r (e' := lI (d (k + 1))) (by rw [ik, Nat.zero_add, hp k (Or.inl ⟨Nat.le_refl _, hk⟩), zcell_pivot h.1 hk]) ⟨vr5, vk6, nm_r (e' := lI (zcell A d x k r k)) (by rw [ir, ik, Nat.zero_add, hrow k (Or.inl ⟨Nat.le_refl _, hk⟩)]) (nm_e ?_)⟩⟩
  obtain ⟨I, eI⟩ : ∃ I : Nat → zS → Prop, I = fun c s' => zSm [] [] [] [r] s s' ∧ (∀ m, m < c → zM5 u (k + 1) m → gL s' r m = lI (zcell A d x (k + 1) r m)) ∧ (∀ m, c ≤ m → gL s' r m = gL s r m) := ⟨_, rfl⟩
  obtain ⟨m, hm⟩ := pk_loop (fun m c s' => W_X0_clearColumn_L23 (nI r) (nI k) (lI (d k)) (lI (d (k + 1))) (lI (zcell A d x k r k)) Q (I 6) m (nI c) s') I 6 0 s (Nat.zero_le _)
    (by rw [eI]; exact ⟨zSm.rf s, fun m hm => by omega, fun _ _ => rfl⟩)
    (fun m s' hI => br_t (nI_le (Nat.le_refl 6) (by omega)) hI)
    (fun m c s' hc hI hgo => by
      rw [eI] at hI
      obtain ⟨hS, hI1, hI2⟩ := hI
      have vc6 : vp_in (nI c) 6 := vp_in_nI (by omega) (by omega)
      refine br_f (nI_ge (b := 6) hc (by omega)) ⟨vr5, vc6, vk5, vc6, nm_e ⟨vr5, nt_t hne ⟨hne, vc6, nm_e (nm_r (nI_1 c) (hgo _ ?_))⟩⟩⟩
      rw [ir, ik, ix_nI (by omega), Nat.zero_add, Nat.zero_add, eI]
      refine ⟨hS.tL (by simp) _ _, fun m hm hM => ?_, fun m hm => ?_⟩
      · rw [gL_sLs]
        by_cases e : m = c
        · subst e
          have hM' : zM5 u k m := by
            rcases hM with q | q
            · exact Or.inl ⟨by omega, q.2⟩
            · exact Or.inr q
          rw [if_pos rfl, hI2 m (Nat.le_refl _), hrow m hM', hS.2.2.2 k (by simp; exact fun q => hrk q.symm), hp m hM']
          exact zstep_div h hk hr hrk hM hd hd1
        · rw [if_neg e]
          exact hI1 m (by omega) hM
      · rw [gL_sLs, if_neg (by omega)]
        exact hI2 m (by omega))
  refine ⟨_, m, fun s' hI => ?_, hm⟩
  rw [eI] at hI
  refine hQ s' hI.1 (fun m hM => hI.2.1 m ?_ hM)
  rcases hM with q | q <;> omega
theorem W_eliminate {u : Nat} {A : Nat → Nat → Int} {d : Nat → Int} {x : Nat → Nat → Nat → Int} (h : zbnd u (zM5 u) A d x) (hu : u ≤ 5) (hz : ∀ k, k < u → d (k + 1) = 0 → d u = 0) {s : zS} (h2 : gI s 2 = nI u)
    (hC : ∀ r m, r < u → zM5 u 0 m → gL s r m = lI (A r m)) (Q : zS → Prop)
    (hQ : ∀ s', zSm [] [0] [] [0, 1, 2, 3, 4] s s' → gJ s' 0 = lI (d u) → (d u ≠ 0 → ∀ r, r < u → gL s' r 5 = lI (zcell A d x u r 5)) → Q s') : W_X0_eliminate s Q := by
  have hd0 : d 0 = 1 := h.1.1
  refine nm_r (e' := lI (d 0)) (by rw [hd0]; rfl) (nm_e ?_)
  obtain ⟨I, eI⟩ : ∃ I : Nat → zS → Prop, I = fun k s' => zSm [] [0] [] [0, 1, 2, 3, 4] s s' ∧ d k ≠ 0 ∧ ∀ r m, r < u → zM5 u k m → gL s' r m = lI (zcell A d x k r m) := ⟨_, rfl⟩
  obtain ⟨m, hm⟩ := pk_loop (fun m k s' => W_X0_eliminate_L4 Q (fun v s' => v = lI (d u) ∧ I u s') m (lI (d k)) (nI k) s') I u 0 s (Nat.zero_le _)
    (by rw [eI]; exact ⟨zSm.rf s, by omega, fun r m hr hM => by rw [hC r m hr hM, zcell_0 h.1]⟩)
    (fun m s' hI => br_t (by
      rw [eI] at hI
      exact c_le ((hI.1.1 2 (by simp)).trans h2) (Nat.le_refl _) (by omega)) ⟨rfl, hI⟩)
    (fun m k s' hk hI hgo => by
      rw [eI] at hI
      obtain ⟨hS, hd, hI1⟩ := hI
      have ik : ix (nI k) = k := ix_nI (by omega)
      have hMk : zM5 u k k := Or.inl ⟨Nat.le_refl _, hk⟩
      refine br_f (c_nle ((hS.1 2 (by simp)).trans h2) hk (by omega)) ⟨vp_in_nI (by omega) (by omega), vp_in_nI (by omega) (by omega), nm_r (e' := lI (d (k + 1))) (by rw [ik, Nat.zero_add, hI1 k k hk hMk, zcell_pivot h.1 hk]) ?_⟩
      have hB := h.2.1 (k + 1) (by omega)
      have hiff : lI (d (k + 1)) = 0 ↔ d (k + 1) = 0 := lI_eq (b := 0) ⟨by omega, by omega⟩ ⟨by omega, by omega⟩
      refine nt_c (fun c => ?_) (fun c => ?_)
      · have hd1 : d (k + 1) ≠ 0 := fun q => c (hiff.mpr q)
        refine nm_e ?_
        obtain ⟨J, eJ⟩ : ∃ J : Nat → zS → Prop, J = fun r s2 => zSm [] [0] [] [0, 1, 2, 3, 4] s s2 ∧ (∀ r', r' < u → r' ≠ k → r' < r → ∀ m, zM5 u (k + 1) m → gL s2 r' m = lI (zcell A d x (k + 1) r' m)) ∧ (∀ r', r' < u → r ≤ r' ∨ r' = k → ∀ m, zM5 u k m → gL s2 r' m = lI (zcell A d x k r' m)) := ⟨_, rfl⟩
        obtain ⟨m2, hm2⟩ := pk_loop (fun m r s2 => W_X0_eliminate_L38 (lI (d k)) (nI k) (lI (d (k + 1))) Q (J u) m (nI r) s2) J u 0 s' (Nat.zero_le _)
          (by rw [eJ]; exact ⟨hS, fun r' _ _ q => by omega, fun r' hr' _ m hM => hI1 r' m hr' hM⟩)
          (fun m s2 hJ => br_t (by
            rw [eJ] at hJ
            exact c_le ((hJ.1.1 2 (by simp)).trans h2) (Nat.le_refl _) (by omega)) hJ)
          (fun m r s2 hr hJ hgo2 => by
            rw [eJ] at hJ
            obtain ⟨hS2, hJ1, hJ2⟩ := hJ
            refine br_f (c_nle ((hS2.1 2 (by simp)).trans h2) hr (by omega)) (br_c (fun c => ?_) (fun c => ?_))
            · have c2 := (nI_eq (by omega) (by omega)).mp c
              refine nm_r (nI_1 r) (hgo2 s2 ?_)
              rw [eJ]
              exact ⟨hS2, fun r' h1 h2 h3 => hJ1 r' h1 h2 (by omega), fun r' h1 h2 => hJ2 r' h1 (by omega)⟩
            · have c2 : r ≠ k := fun q => c (by rw [q])
              refine W_clearColumn h hu hk hr c2 hd hd1 (hJ2 k hk (Or.inr rfl)) (hJ2 r hr (Or.inl (Nat.le_refl _))) _ (fun s3 hS3 hrow => ?_)
              refine nm_r (nI_1 r) (hgo2 s3 ?_)
              rw [eJ]
              refine ⟨hS2.tr (hS3.mono (by simp) (by simp) (by simp) (by simp; omega)), fun r' h1 h2 h3 m hM => ?_, fun r' h1 h2 m hM => ?_⟩
              · by_cases e : r' = r
                · rw [e]
                  exact hrow m hM
                · rw [hS3.2.2.2 r' (by simp [e])]
                  exact hJ1 r' h1 h2 (by omega) m hM
              · rw [hS3.2.2.2 r' (by simp; omega)]
                exact hJ2 r' h1 (by omega) m hM)
        refine ⟨_, m2, fun s3 hJ => nm_e (nm_r (nI_1 k) (hgo s3 ?_)), hm2⟩
        rw [eJ] at hJ
        rw [eI]
        refine ⟨hJ.1, hd1, fun r m hr hM => ?_⟩
        by_cases e : r = k
        · rw [e, zstep_p h.1 hk hd hd1 hM]
          refine hJ.2.2 k hk (Or.inr rfl) m ?_
          rcases hM with q | q
          · exact Or.inl ⟨by omega, q.2⟩
          · exact Or.inr q
        · exact hJ.2.1 r hr e hr m hM
      · have h0 := hz k hk (hiff.mp c)
        refine nm_e (hQ _ (hS.tJ (by simp) _) ?_ (fun q => absurd h0 q))
        rw [gJ_sJ, if_pos rfl, h0]
        rfl)
  refine ⟨_, m, fun v s' hv => ?_, hm⟩
  obtain ⟨hv1, hI⟩ := hv
  rw [eI] at hI
  refine nm_e (hQ _ (hI.1.tJ (by simp) _) ?_ (fun _ r hr => hI.2.2 r 5 hr (Or.inr rfl)))
  rw [gJ_sJ, if_pos rfl, hv1]
theorem lU_mono {U V : Nat → Bool} {d0 : Nat} (hU : U d0 = false) (hV : V d0 = false) (h : ∀ s, U s = true → V s = true) (s t : Nat) (e : lU V d0 s = lU V d0 t) : lU U d0 s = lU U d0 t := by
  have hf : ∀ s, V s = false → U s = false := fun s hs => by
    cases hh : U s
    · rfl
    · rw [h s hh] at hs
      cases hs
  rcases (lU_eq hV s t).mp e with q | q
  · rw [q]
  · exact (lU_eq hU s t).mpr (Or.inr ⟨hf s q.1, hf t q.2⟩)
theorem zU_mono (σ : Nat → Nat) (re : Nat → Bool) {k n : Nat} (h : k ≤ n) (s : Nat) (hs : zU σ re k s = true) : zU σ re n s = true := by
  obtain ⟨i, h1, h2, h3⟩ := (zU_iff σ re s k).mp hs
  exact (zU_iff σ re s n).mpr ⟨i, by omega, h2, h3⟩
theorem zrow_z {S : List Nat} {E : List zE} {d0 n : Nat} {σ : Nat → Nat} {re : Nat → Bool} {R : Nat} (hr : zrow S d0 n σ re R) (hl : zlim S E d0) : ∀ k, k < n → TD S E (lU (zU σ re (k + 1)) d0) = 0 → TD S E (lU (zU σ re n) d0) = 0 := by
  intro k hk h0
  by_cases c : TD S E (lU (zU σ re n) d0) = 0
  · exact c
  · have := TD_mono (S := S) (E := E) (lab := lU (zU σ re (k + 1)) d0) (fun e he => (hl.2.1 e he).1) (fun s t => lU_mono (zrow_d hr (by omega)) (zrow_d hr (Nat.le_refl n)) (fun s => zU_mono σ re (by omega) s) s t) c
    omega
/-- solved: the sum of the weights of all trees, and what the rows hold -/
def CS (A : zNt) (t w : Nat) (s : zS) : Prop := RX A s ∧ CR A t s ∧ gJ s 0 = lI (pT A t w) ∧ (w = 14 → ∀ r, r < cu A t → gL s r 5 = lI (pR A t (cg A t r)))
theorem W_solve {A : zNt} (hA : zok A) {s : zS} (hR : RX A s) {t w : Nat} (ht : t < nnn A) {x : Int32} (hx : ∀ o, o < nko A → (nI o = x ↔ o = w)) (Q : zS → Prop) (hQ : ∀ s', zSm [2, 3] [0] [8] [0, 1, 2, 3, 4] s s' → CS A t w s' → Q s') : W_X0_solve s (nI t) x Q := by
  have hk14 := hA.2.1
  have hn := hA.1
  have hu := cu_le hA ht
  refine W_datumOf hA hR ht _ (nm_e ?_)
  have hS0 : zSm [2, 3] [0] [8] [0, 1, 2, 3, 4] s (sI s 3 (nI (dat A t))) := (zSm.rf s).tI (by simp) _
  have hR0 : RX A (sI s 3 (nI (dat A t))) := hR.sm hS0 ⟨by simp, by simp⟩ ⟨by simp, by simp, by simp, by simp, by simp, by simp, by simp⟩ (by simp)
  refine W_numberUnknowns hA hR0 ht rfl _ (fun s1 hS1 hCR1 => ?_)
  have hS1' : zSm [2, 3] [0] [8] [0, 1, 2, 3, 4] s s1 := hS0.tr (hS1.mono (by simp) (by simp) (by simp) (by simp))
  refine W_clearCells _ (fun s2 hS2 h0 => nm_e ?_)
  have hS2' : zSm [2, 3] [0] [8] [0, 1, 2, 3, 4] s s2 := hS1'.tr (hS2.mono (by simp) (by simp) (by simp) (by simp))
  have hkeep : ∀ s3, zSm [] [] [] [0, 1, 2, 3, 4] s2 s3 → zSm [2, 3] [0] [8] [0, 1, 2, 3, 4] s s3 ∧ RX A s3 ∧ CR A t s3 := fun s3 hS3 => by
    have h := hS2'.tr (hS3.mono (by simp) (by simp) (by simp) (by simp))
    refine ⟨h, hR.sm h ⟨by simp, by simp⟩ ⟨by simp, by simp, by simp, by simp, by simp, by simp, by simp⟩ (by simp), ?_⟩
    obtain ⟨c1, c2, c3⟩ := hCR1
    have h' := hS2.tr hS3
    exact ⟨(h'.1 2 (by simp)).trans c1, (h'.1 3 (by simp)).trans c2, by rw [h'.2.2.1 8 (by simp)]; exact c3⟩
  obtain ⟨I, eI⟩ : ∃ I : Nat → zS → Prop, I = fun o s3 => zSm [] [] [] [0, 1, 2, 3, 4] s2 s3 ∧ CE (cu A t) (cF A t (pP A t w) o) s3 := ⟨_, rfl⟩
  obtain ⟨m, hm⟩ := pk_loop (fun m o s3 => W_X0_solve_L22 x Q (I (nko A)) m (nI o) s3) I (nko A) 0 s2 (Nat.zero_le _)
    (by
      rw [eI]
      refine ⟨zSm.rf s2, fun r c hr hc => ?_⟩
      rw [h0 r c (by omega) (by omega)]
      unfold cF
      split <;> rfl)
    (fun m s3 hI => br_t (by
      rw [eI] at hI
      exact c_le (hkeep s3 hI.1).2.1.1.2.1 (Nat.le_refl _) (by omega)) hI)
    (fun m o s3 ho hI hgo => by
      rw [eI] at hI
      obtain ⟨hS3, hC⟩ := hI
      obtain ⟨hSm, hR3, hCR3⟩ := hkeep s3 hS3
      have hskip : pP A t w o = false → I (o + 1) s3 := fun hp => by
        rw [eI]
        refine ⟨hS3, fun r c hr hc => ?_⟩
        rw [hC r c hr hc]
        unfold cF
        rw [nEl_snoc, Nat.zero_add, if_neg (show ¬ pP A t w o = true by rw [hp]; decide), List.append_nil]
      refine br_f (c_nle hR3.1.2.1 ho (by omega)) (br_c (fun c => nm_r (nI_1 o) (hgo s3 (hskip ?_))) (fun c => ?_))
      · have := (hx o ho).mp c
        simp [pP, this]
      · have hne : (o != w) = true := by simp; exact fun q => c ((hx o ho).mpr q)
        rw [hCR3.2.1]
        refine W_isInPartOf hA hR3 ho (dat_lt ht) _ ?_
        have hb : (!nwd A o && cI A (nfr A o) (dat A t)) = pP A t w o := by
          unfold pP
          rw [hne, Bool.and_true, cI_congr (dat_in A t)]
        rw [hb]
        cases hp : pP A t w o
        · exact br_t rfl (nm_r (nI_1 o) (hgo s3 (hskip hp)))
        · refine br_f (by decide) (W_addToCells hA ht hR3 hCR3 ho hp hC _ (fun s4 hS4 hC4 => nm_r (nI_1 o) (hgo s4 ?_)))
          rw [eI]
          exact ⟨hS3.tr hS4, hC4⟩)
  refine ⟨_, m, fun s3 hI => ?_, hm⟩
  rw [eI] at hI
  obtain ⟨hS3, hC⟩ := hI
  obtain ⟨hSm, hR3, hCR3⟩ := hkeep s3 hS3
  have hl := pE_lim hA (w := w) ht
  have hrw := c_row hA ht
  refine W_eliminate (zbndD hl (pE_d hA) hrw) hu (zrow_z hrw hl) hCR3.1 (fun r m hr hM => ?_) _ (fun s4 hS4 hJ hL => ?_)
  · rw [hC r m hr (by rcases hM with q | q; exact Or.inl q.2; exact Or.inr q)]
    unfold cF zA
    by_cases e : m = 5
    · rw [if_pos e, if_pos e, if_pos rfl]
      rfl
    · rw [if_neg e, if_neg e, if_pos ⟨rfl, rfl⟩]
      rfl
  · have h := hSm.tr (hS4.mono (by simp) (by simp) (by simp) (by simp))
    have eU := c_zU hA ht
    refine hQ s4 h ⟨hR.sm h ⟨by simp, by simp⟩ ⟨by simp, by simp, by simp, by simp, by simp, by simp, by simp⟩ (by simp), ?_, ?_, fun hw r hr => ?_⟩
    · obtain ⟨c1, c2, c3⟩ := hCR3
      exact ⟨(hS4.1 2 (by simp)).trans c1, (hS4.1 3 (by simp)).trans c2, by rw [hS4.2.2.1 8 (by simp)]; exact c3⟩
    · rw [hJ, eU]
      rfl
    · subst hw
      have hpos := pT_pos hA ht
      have hne : TD (pS A t) (pE A t 14) (lU (zU (cg A t) (fun _ => true) (cu A t)) (dat A t)) ≠ 0 := by
        rw [eU]
        unfold pT at hpos
        omega
      rw [hL hne r hr]
      unfold zcell
      rw [if_pos hr]
      unfold zx
      rw [if_pos rfl, if_pos rfl]
      unfold xbD
      rw [eU]
      rfl
theorem pR_d {A : zNt} {t : Nat} : pR A t (dat A t) = 0 := by
  unfold pR
  rw [TP_fixed (pU_d A t) (pU_d A t)]
  omega
noncomputable def pR0 (A : zNt) (t q : Nat) : Int := if pU A t q = true then pR A t q else 0
theorem W_riseOf {A : zNt} (hA : zok A) {s : zS} {t : Nat} (ht : t < nnn A) (h : CS A t 14 s) {q : Nat} (hq : q < nnn A) (Q : Int64 → Prop) (hQ : Q (lI (pR0 A t q))) : W_X0_riseOf s (nI q) Q := by
  have hn := hA.1
  have hu := cu_le hA ht
  refine ⟨vp_in_nI (by omega) (by omega), nm_r (by rw [ix_nI (by omega)]) ?_⟩
  rw [h.2.1.2.2 q hq]
  unfold pR0 at hQ
  by_cases c : pU A t q = true
  · rw [if_pos c] at hQ ⊢
    have hr : zcn (pU A t) q < cu A t := zcn_lt hq c
    have hne : ¬ nI (zcn (pU A t) q) = -1 := fun q => by
      have := congrArg Int32.toInt q
      rw [nI_toInt (by omega)] at this
      have e2 : (-1 : Int32).toInt = -1 := rfl
      omega
    refine nt_t hne ⟨vp_in_nI (by omega) (by omega), vp_in_nI (n := 5) (by omega) (by omega), ?_⟩
    rw [ix_nI (by omega), show ix 5 = 5 from rfl, Nat.zero_add, h.2.2.2 rfl _ hr, cg_of (by omega) c]
    exact hQ
  · rw [if_neg c] at hQ ⊢
    exact nt_f rfl hQ
end ZELIM

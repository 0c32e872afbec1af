/-! THE CLASS'S NET: what its methods answer and do -/
section ZNET
theorem zite {α : Type} {p q : Prop} {d1 : Decidable p} {d2 : Decidable q} (h : p ↔ q) {x y : α} : @ite α p d1 x y = @ite α q d2 x y := by
  by_cases c : p
  · rw [if_pos c, if_pos (h.mp c)]
  · rw [if_neg c, if_neg (fun r => c (h.mpr r))]
theorem nt_t {c A B : Prop} (h : ¬ c) (a : A) : (¬ c → A) ∧ (c → B) := ⟨fun _ => a, fun q => absurd q h⟩
theorem nt_f {c A B : Prop} (h : c) (b : B) : (¬ c → A) ∧ (c → B) := ⟨fun q => absurd h q, fun _ => b⟩
theorem nt_c {c A B : Prop} (a : ¬ c → A) (b : c → B) : (¬ c → A) ∧ (c → B) := ⟨a, b⟩
theorem c_le {x : Int32} {n i : Nat} (h : x = nI n) (hle : n ≤ i) (hi : i < 2 ^ 31) : x ≤ nI i := by rw [h]; exact nI_le hle hi
theorem c_nle {x : Int32} {n i : Nat} (h : x = nI n) (hlt : i < n) (hn : n < 2 ^ 31) : ¬ x ≤ nI i := by rw [h]; exact nI_ge hlt hn
theorem gI_sI (s : zS) (k : Nat) (v : Int32) (j : Nat) : gI (sI s k v) j = if j = k then v else gI s j := rfl
theorem gI_sJ (s : zS) (k : Nat) (v : Int64) (j : Nat) : gI (sJ s k v) j = gI s j := rfl
theorem gI_sF (s : zS) (r i : Nat) (v : Int32) (j : Nat) : gI (sF s r i v) j = gI s j := rfl
theorem gI_sL (s : zS) (r i : Nat) (v : Int64) (j : Nat) : gI (sL s r i v) j = gI s j := rfl
theorem gJ_sI (s : zS) (k : Nat) (v : Int32) (j : Nat) : gJ (sI s k v) j = gJ s j := rfl
theorem gJ_sJ (s : zS) (k : Nat) (v : Int64) (j : Nat) : gJ (sJ s k v) j = if j = k then v else gJ s j := rfl
theorem gJ_sF (s : zS) (r i : Nat) (v : Int32) (j : Nat) : gJ (sF s r i v) j = gJ s j := rfl
theorem gJ_sL (s : zS) (r i : Nat) (v : Int64) (j : Nat) : gJ (sL s r i v) j = gJ s j := rfl
theorem gF_sI (s : zS) (k : Nat) (v : Int32) (j : Nat) : gF (sI s k v) j = gF s j := rfl
theorem gF_sJ (s : zS) (k : Nat) (v : Int64) (j : Nat) : gF (sJ s k v) j = gF s j := rfl
theorem gF_sF (s : zS) (r i : Nat) (v : Int32) (j : Nat) : gF (sF s r i v) j = if j = r then upd (gF s r) i v else gF s j := rfl
theorem gF_sFs (s : zS) (r i : Nat) (v : Int32) (j : Nat) : gF (sF s r i v) r j = if j = i then v else gF s r j := by
  rw [gF_sF, if_pos rfl]; rfl
theorem gF_sFn (s : zS) {r q : Nat} (h : q ≠ r) (i : Nat) (v : Int32) : gF (sF s r i v) q = gF s q := by rw [gF_sF, if_neg h]
theorem gF_sL (s : zS) (r i : Nat) (v : Int64) (j : Nat) : gF (sL s r i v) j = gF s j := rfl
theorem gL_sI (s : zS) (k : Nat) (v : Int32) (j : Nat) : gL (sI s k v) j = gL s j := rfl
theorem gL_sJ (s : zS) (k : Nat) (v : Int64) (j : Nat) : gL (sJ s k v) j = gL s j := rfl
theorem gL_sF (s : zS) (r i : Nat) (v : Int32) (j : Nat) : gL (sF s r i v) j = gL s j := rfl
theorem gL_sL (s : zS) (r i : Nat) (v : Int64) (j : Nat) : gL (sL s r i v) j = if j = r then vp_updL (gL s r) i v else gL s j := rfl
theorem gL_sLs (s : zS) (r i : Nat) (v : Int64) (j : Nat) : gL (sL s r i v) r j = if j = i then v else gL s r j := by
  rw [gL_sL, if_pos rfl]; rfl
theorem gL_sLn (s : zS) {r q : Nat} (h : q ≠ r) (i : Nat) (v : Int64) : gL (sL s r i v) q = gL s q := by rw [gL_sL, if_neg h]
/-- the same but for these ints, longs, rows of ints, rows of longs -/
def zSm (li lj lf ll : List Nat) (s s' : zS) : Prop := (∀ k, k ∉ li → gI s' k = gI s k) ∧ (∀ k, k ∉ lj → gJ s' k = gJ s k) ∧ (∀ k, k ∉ lf → gF s' k = gF s k) ∧ (∀ k, k ∉ ll → gL s' k = gL s k)
theorem zSm.rf {li lj lf ll : List Nat} (s : zS) : zSm li lj lf ll s s := ⟨fun _ _ => rfl, fun _ _ => rfl, fun _ _ => rfl, fun _ _ => rfl⟩
theorem zSm.tr {li lj lf ll : List Nat} {s t u : zS} (h : zSm li lj lf ll s t) (h2 : zSm li lj lf ll t u) : zSm li lj lf ll s u :=
  ⟨fun k q => (h2.1 k q).trans (h.1 k q), fun k q => (h2.2.1 k q).trans (h.2.1 k q), fun k q => (h2.2.2.1 k q).trans (h.2.2.1 k q), fun k q => (h2.2.2.2 k q).trans (h.2.2.2 k q)⟩
theorem zSm.mono {li lj lf ll li' lj' lf' ll' : List Nat} {s t : zS} (h : zSm li lj lf ll s t) (h1 : ∀ k ∈ li, k ∈ li') (h2 : ∀ k ∈ lj, k ∈ lj') (h3 : ∀ k ∈ lf, k ∈ lf') (h4 : ∀ k ∈ ll, k ∈ ll') : zSm li' lj' lf' ll' s t :=
  ⟨fun k q => h.1 k (fun r => q (h1 k r)), fun k q => h.2.1 k (fun r => q (h2 k r)), fun k q => h.2.2.1 k (fun r => q (h3 k r)), fun k q => h.2.2.2 k (fun r => q (h4 k r))⟩
theorem zSm.tI {li lj lf ll : List Nat} {s t : zS} (h : zSm li lj lf ll s t) {k : Nat} (hk : k ∈ li) (v : Int32) : zSm li lj lf ll s (sI t k v) :=
  ⟨fun j q => by rw [gI_sI, if_neg (fun e : j = k => q (e ▸ hk))]; exact h.1 j q, h.2.1, h.2.2.1, h.2.2.2⟩
theorem zSm.tJ {li lj lf ll : List Nat} {s t : zS} (h : zSm li lj lf ll s t) {k : Nat} (hk : k ∈ lj) (v : Int64) : zSm li lj lf ll s (sJ t k v) :=
  ⟨h.1, fun j q => by rw [gJ_sJ, if_neg (fun e : j = k => q (e ▸ hk))]; exact h.2.1 j q, h.2.2.1, h.2.2.2⟩
theorem zSm.tF {li lj lf ll : List Nat} {s t : zS} (h : zSm li lj lf ll s t) {k : Nat} (hk : k ∈ lf) (i : Nat) (v : Int32) : zSm li lj lf ll s (sF t k i v) :=
  ⟨h.1, h.2.1, fun j q => by rw [gF_sF, if_neg (fun e : j = k => q (e ▸ hk))]; exact h.2.2.1 j q, h.2.2.2⟩
theorem zSm.tL {li lj lf ll : List Nat} {s t : zS} (h : zSm li lj lf ll s t) {k : Nat} (hk : k ∈ ll) (i : Nat) (v : Int64) : zSm li lj lf ll s (sL t k i v) :=
  ⟨h.1, h.2.1, h.2.2.1, fun j q => by rw [gL_sL, if_neg (fun e : j = k => q (e ▸ hk))]; exact h.2.2.2 j q⟩
/-- the class's state is of the net A, but for the parts -/
def RXn (A : zNt) (s : zS) : Prop := gI s 0 = nI (nnn A) ∧ gI s 1 = nI (nko A) ∧ (∀ t, t < 6 → gF s 0 t = bI (ntl A t) ∧ gF s 1 t = iI (nth A t)) ∧
  (∀ o, o < nko A → gF s 3 o = nI (nfr A o) ∧ gF s 4 o = nI (nto A o) ∧ gF s 5 o = iI (ndf A o) ∧ gF s 6 o = iI (nwt A o)) ∧ (∀ o, o < 14 → gF s 7 o = bI (nwd A o))
def RX (A : zNt) (s : zS) : Prop := RXn A s ∧ ∀ t, t < nnn A → gF s 2 t = nI (lw A t)
theorem RXn.sm {A : zNt} {li lj lf ll : List Nat} {s s' : zS} (h : RXn A s) (m : zSm li lj lf ll s s') (h1 : 0 ∉ li ∧ 1 ∉ li) (h2 : 0 ∉ lf ∧ 1 ∉ lf ∧ 3 ∉ lf ∧ 4 ∉ lf ∧ 5 ∉ lf ∧ 6 ∉ lf ∧ 7 ∉ lf) : RXn A s' := by
  obtain ⟨a0, a1, a2, a3, a4⟩ := h
  obtain ⟨m1, m2, m3, m4⟩ := m
  refine ⟨by rw [m1 0 h1.1]; exact a0, by rw [m1 1 h1.2]; exact a1, ?_, ?_, ?_⟩
  · rw [m3 0 h2.1, m3 1 h2.2.1]; exact a2
  · rw [m3 3 h2.2.2.1, m3 4 h2.2.2.2.1, m3 5 h2.2.2.2.2.1, m3 6 h2.2.2.2.2.2.1]; exact a3
  · rw [m3 7 h2.2.2.2.2.2.2]; exact a4
theorem RX.sm {A : zNt} {li lj lf ll : List Nat} {s s' : zS} (h : RX A s) (m : zSm li lj lf ll s s') (h1 : 0 ∉ li ∧ 1 ∉ li) (h2 : 0 ∉ lf ∧ 1 ∉ lf ∧ 3 ∉ lf ∧ 4 ∉ lf ∧ 5 ∉ lf ∧ 6 ∉ lf ∧ 7 ∉ lf) (h3 : 2 ∉ lf) : RX A s' :=
  ⟨h.1.sm m h1 h2, by rw [m.2.2.1 2 h3]; exact h.2⟩
theorem W_mergeParts {s : zS} {n : Nat} {f : Nat → Nat} (hn : n ≤ 6) (h0 : gI s 0 = nI n) (hf : ∀ t, t < n → gF s 2 t = nI (f t)) (hf6 : ∀ t, t < n → f t < 6) (a b : Nat) (ha : a < 6) (hb : b < 6) (Q : zS → Prop)
    (hQ : ∀ s', zSm [] [] [2] [] s s' → (∀ t, t < n → gF s' 2 t = nI (if f t = max a b then min a b else f t)) → Q s') : W_X1_mergeParts s (nI a) (nI b) Q := by
  have emin : (if nI b < nI a then nI b else nI a) = nI (min a b) := by
    by_cases c : b < a
    · rw [if_pos (nI_lt c (by omega)), Nat.min_eq_right (by omega)]
    · rw [if_neg (nI_nlt (by omega) (by omega)), Nat.min_eq_left (by omega)]
  have emax : (if nI a < nI b then nI b else nI a) = nI (max a b) := by
    by_cases c : a < b
    · rw [if_pos (nI_lt c (by omega)), Nat.max_eq_right (by omega)]
    · rw [if_neg (nI_nlt (by omega) (by omega)), Nat.max_eq_left (by omega)]
  refine nm_r emin (nm_r emax (nm_e ?_))
  have hlo : min a b < 6 := by omega
  have hhi : max a b < 6 := by omega
  generalize min a b = lo at hQ hlo ⊢
  generalize max a b = hi at hQ hhi ⊢
  obtain ⟨I, eI⟩ : ∃ I : Nat → zS → Prop, I = fun i s' => zSm [] [] [2] [] s s' ∧ ∀ t, t < n → gF s' 2 t = nI (if t < i ∧ f t = hi then lo else f t) := ⟨_, rfl⟩
  obtain ⟨m, hm⟩ := pk_loop (fun m i s' => W_X1_mergeParts_L16 (nI lo) (nI hi) Q (I n) m (nI i) s') I n 0 s (Nat.zero_le _)
    (by rw [eI]; exact ⟨zSm.rf s, fun t ht => by rw [if_neg (by omega)]; exact hf t ht⟩)
    (fun m s' hI => br_t (by
      rw [eI] at hI
      exact c_le ((hI.1.1 0 (by simp)).trans h0) (Nat.le_refl _) (by omega)) hI)
    (fun m i s' hi1 hI hk => by
      rw [eI] at hI
      have h1 : gI s' 0 = nI n := (hI.1.1 0 (by simp)).trans h0
      have h2 := hI.2 i hi1
      rw [if_neg (by omega)] at h2
      refine br_f (c_nle h1 hi1 (by omega)) ⟨vp_in_nI (by omega) (by omega), ?_⟩
      rw [ix_nI (by omega), h2]
      have h6 := hf6 i hi1
      refine nt_c (fun c => ?_) (fun c => ?_)
      · refine nm_r (nI_1 i) (hk s' ?_)
        rw [eI]
        refine ⟨hI.1, fun t ht => ?_⟩
        rw [hI.2 t ht]
        have hne : f i ≠ hi := fun q => c (by rw [q])
        by_cases e : t = i
        · subst e
          rw [if_neg (fun q => hne q.2), if_neg (fun q => hne q.2)]
        · exact congrArg nI (zite ⟨fun q => ⟨by omega, q.2⟩, fun q => ⟨by omega, q.2⟩⟩)
      · have c' : f i = hi := (nI_eq (by omega) (by omega)).mp c
        refine ⟨vp_in_nI (by omega) (by omega), nm_e (nm_r (nI_1 i) (hk _ ?_))⟩
        rw [eI]
        refine ⟨hI.1.tF (by simp) _ _, fun t ht => ?_⟩
        rw [gF_sFs]
        by_cases e : t = i
        · subst e
          rw [if_pos rfl, if_pos ⟨by omega, c'⟩]
        · rw [if_neg e, hI.2 t ht]
          exact congrArg nI (zite ⟨fun q => ⟨by omega, q.2⟩, fun q => ⟨by omega, q.2⟩⟩))
  refine ⟨I n, m, fun s' hI => ?_, hm⟩
  rw [eI] at hI
  refine hQ s' hI.1 (fun t ht => ?_)
  rw [hI.2 t ht]
  exact congrArg nI (zite ⟨fun q => q.2, fun q => ⟨ht, q⟩⟩)
/-- labels after the first k observations -/
def zlb (A : zNt) (k : Nat) (f : Nat → Nat) : Prop := (∀ t, t < nnn A → f t ≤ t ∧ ncn A k (f t) t ∧ f (f t) = f t) ∧ ∀ o, o < k → nwd A o = false → f (nfr A o) = f (nto A o)
theorem zlb_step {A : zNt} (hA : zok A) {k : Nat} (hk : k < nko A) {f : Nat → Nat} (h : zlb A k f) (hw : nwd A k = false) :
    zlb A (k + 1) (fun t => if f t = max (f (nfr A k)) (f (nto A k)) then min (f (nfr A k)) (f (nto A k)) else f t) := by
  obtain ⟨h1, h2⟩ := h
  obtain ⟨f1, f2, -⟩ := hA.2.2.1 k hk
  obtain ⟨a1, a2, a3⟩ := h1 _ f1
  obtain ⟨b1, b2, b3⟩ := h1 _ f2
  have hc : ncn A (k + 1) (f (nfr A k)) (f (nto A k)) := ncn_trans (ncn_mono (by omega) a2) (ncn_trans (ncn_edge (by omega) hw) (ncn_symm (ncn_mono (by omega) b2)))
  have hc2 : ncn A (k + 1) (min (f (nfr A k)) (f (nto A k))) (max (f (nfr A k)) (f (nto A k))) := by
    by_cases c : f (nfr A k) ≤ f (nto A k)
    · rw [Nat.min_eq_left c, Nat.max_eq_right c]; exact hc
    · rw [Nat.min_eq_right (by omega), Nat.max_eq_left (by omega)]; exact ncn_symm hc
  have hlo : f (min (f (nfr A k)) (f (nto A k))) = min (f (nfr A k)) (f (nto A k)) := by
    by_cases c : f (nfr A k) ≤ f (nto A k)
    · rw [Nat.min_eq_left c]; exact a3
    · rw [Nat.min_eq_right (by omega)]; exact b3
  have hll : min (f (nfr A k)) (f (nto A k)) ≤ max (f (nfr A k)) (f (nto A k)) := by omega
  have hor : ∀ x, x = f (nfr A k) ∨ x = f (nto A k) → (if x = max (f (nfr A k)) (f (nto A k)) then min (f (nfr A k)) (f (nto A k)) else x) = min (f (nfr A k)) (f (nto A k)) := fun x hx => by
    split
    · rfl
    · rcases hx with hx | hx <;> omega
  have hfr := hor _ (Or.inl rfl)
  have hto := hor _ (Or.inr rfl)
  generalize max (f (nfr A k)) (f (nto A k)) = hi at *
  generalize min (f (nfr A k)) (f (nto A k)) = lo at *
  refine ⟨fun t ht => ?_, fun o ho hwo => ?_⟩
  · obtain ⟨c1, c2, c3⟩ := h1 t ht
    by_cases e : f t = hi
    · simp only [if_pos e]
      refine ⟨by omega, ncn_trans hc2 (by rw [← e]; exact ncn_mono (by omega) c2), ?_⟩
      rw [hlo]
      split <;> rfl
    · simp only [if_neg e]
      refine ⟨c1, ncn_mono (by omega) c2, ?_⟩
      rw [c3, if_neg e]
  · simp only
    by_cases e : o = k
    · subst e
      rw [hfr, hto]
    · rw [h2 o (by omega) hwo]
theorem zlb_lw {A : zNt} (hA : zok A) {f : Nat → Nat} (h : zlb A (nko A) f) {t : Nat} (ht : t < nnn A) : f t = lw A t := by
  refine lw_of (n := nnn A) (fun t ht => ⟨(h.1 t ht).1, cI_iff.mpr (h.1 t ht).2.1⟩) (fun s t hs ht hc => ?_) ht
  have := (cI_iff.mp hc) (fun u => u < nnn A ∧ f u = f t) (fun o ho hw => by
    have h1 := hA.2.2.1 o ho
    have h2 := h.2 o ho hw
    exact ⟨fun q => ⟨h1.2.1, by rw [← h2]; exact q.2⟩, fun q => ⟨h1.1, by rw [h2]; exact q.2⟩⟩)
  exact (this.mpr ⟨ht, rfl⟩).2
theorem W_markParts {A : zNt} (hA : zok A) {s : zS} (hR : RXn A s) (Q : zS → Prop) (hQ : ∀ s', zSm [] [] [2] [] s s' → RX A s' → Q s') : W_X1_markParts s Q := by
  obtain ⟨hn, hk, hob, -⟩ := id hA
  refine nm_e ?_
  obtain ⟨I, eI⟩ : ∃ I : Nat → zS → Prop, I = fun i s' => zSm [] [] [2] [] s s' ∧ ∀ t, t < i → gF s' 2 t = nI t := ⟨_, rfl⟩
  obtain ⟨m, hm⟩ := pk_loop (fun m i s' => W_X1_markParts_L2 Q (I (nnn A)) m (nI i) s') I (nnn A) 0 s (Nat.zero_le _)
    (by rw [eI]; exact ⟨zSm.rf s, fun t ht => by omega⟩)
    (fun m s' hI => br_t (by
      rw [eI] at hI
      exact c_le ((hI.1.1 0 (by simp)).trans hR.1) (Nat.le_refl _) (by omega)) hI)
    (fun m i s' hi1 hI hk => by
      rw [eI] at hI
      have h1 : gI s' 0 = nI (nnn A) := (hI.1.1 0 (by simp)).trans hR.1
      refine br_f (c_nle h1 hi1 (by omega)) ⟨vp_in_nI (by omega) (by omega), ?_⟩
      rw [ix_nI (by omega)]
      refine nm_e (nm_r (nI_1 i) (hk _ ?_))
      rw [eI]
      refine ⟨hI.1.tF (by simp) _ _, fun t ht => ?_⟩
      rw [gF_sFs]
      by_cases e : t = i
      · rw [if_pos e, e]
      · rw [if_neg e]
        exact hI.2 t (by omega))
  refine ⟨I (nnn A), m, fun s1 hI1 => ?_, hm⟩
  rw [eI] at hI1
  refine nm_e ?_
  clear hm eI
  obtain ⟨J, eJ⟩ : ∃ J : Nat → zS → Prop, J = fun k s' => zSm [] [] [2] [] s s' ∧ ∃ f, (∀ t, t < nnn A → gF s' 2 t = nI (f t)) ∧ zlb A k f := ⟨_, rfl⟩
  obtain ⟨m2, hm2⟩ := pk_loop (fun m i s' => W_X1_markParts_L25 Q (J (nko A)) m (nI i) s') J (nko A) 0 s1 (Nat.zero_le _)
    (by rw [eJ]; exact ⟨hI1.1, fun t => t, hI1.2, fun t ht => ⟨Nat.le_refl _, ncn_rfl A _ _, rfl⟩, fun o ho => by omega⟩)
    (fun m s' hI => br_t (by
      rw [eJ] at hI
      exact c_le ((hI.1.1 1 (by simp)).trans hR.2.1) (Nat.le_refl _) (by omega)) hI)
    (fun m i s' hi1 hI hk => by
      rw [eJ] at hI
      obtain ⟨hS, f, hf, hl⟩ := hI
      have hR' := hR.sm hS ⟨by simp, by simp⟩ ⟨by simp, by simp, by simp, by simp, by simp, by simp, by simp⟩
      obtain ⟨r0, r1, -, r3, r4⟩ := id hR'
      obtain ⟨e3, e4, -⟩ := r3 i hi1
      obtain ⟨f1, f2, -⟩ := hob i hi1
      refine br_f (c_nle r1 hi1 (by omega)) ⟨vp_in_nI (by omega) (by omega), ?_⟩
      rw [ix_nI (by omega), r4 i (by omega), e3, e4]
      refine nt_c (fun c => ?_) (fun c => ?_)
      · refine nm_r (nI_1 i) (hk s' ?_)
        rw [eJ]
        refine ⟨hS, f, hf, fun t ht => ?_, fun o ho hw => ?_⟩
        · obtain ⟨g1, g2, g3⟩ := hl.1 t ht
          exact ⟨g1, ncn_mono (by omega) g2, g3⟩
        · by_cases e : o = i
          · subst e
            exact absurd (bI_0.mpr hw) c
          · exact hl.2 o (by omega) hw
      · refine ⟨vp_in_nI (by omega) (by omega), vp_in_nI (by omega) (by omega), vp_in_nI (by omega) (by omega), vp_in_nI (by omega) (by omega), ?_⟩
        rw [ix_nI (by omega), ix_nI (by omega), hf _ f1, hf _ f2]
        have g1 := (hl.1 _ f1).1
        have g2 := (hl.1 _ f2).1
        refine W_mergeParts hn r0 hf (fun t ht => by have := (hl.1 t ht).1; omega) _ _ (by omega) (by omega) _ (fun s2 hS2 hf2 => ?_)
        refine nm_r (nI_1 i) (hk s2 ?_)
        rw [eJ]
        exact ⟨hS.tr hS2, _, hf2, zlb_step hA hi1 hl (bI_0.mp c)⟩)
  refine ⟨J (nko A), m2, fun s2 hJ => ?_, hm2⟩
  rw [eJ] at hJ
  obtain ⟨hS, f, hf, hl⟩ := hJ
  exact hQ s2 hS ⟨hR.sm hS ⟨by simp, by simp⟩ ⟨by simp, by simp, by simp, by simp, by simp, by simp, by simp⟩, fun t ht => by rw [hf t ht, zlb_lw hA hl ht]⟩
end ZNET

/-! A NET AS WHAT IT IS: stations, observations, who is joined with whom, datum, trees -/
section ZNT
abbrev zNt : Type := Nat × Nat × (Nat → Nat) × (Nat → Nat) × (Nat → Int) × (Nat → Int) × (Nat → Bool) × (Nat → Bool) × (Nat → Int)
def nnn (A : zNt) : Nat := A.1
def nko (A : zNt) : Nat := A.2.1
def nfr (A : zNt) : Nat → Nat := A.2.2.1
def nto (A : zNt) : Nat → Nat := A.2.2.2.1
def ndf (A : zNt) : Nat → Int := A.2.2.2.2.1
def nwt (A : zNt) : Nat → Int := A.2.2.2.2.2.1
def nwd (A : zNt) : Nat → Bool := A.2.2.2.2.2.2.1
def ntl (A : zNt) : Nat → Bool := A.2.2.2.2.2.2.2.1
def nth (A : zNt) : Nat → Int := A.2.2.2.2.2.2.2.2
def zok (A : zNt) : Prop := nnn A ≤ 6 ∧ nko A ≤ 14 ∧
  (∀ o, o < nko A → nfr A o < nnn A ∧ nto A o < nnn A ∧ nfr A o ≠ nto A o ∧ (-9999 ≤ ndf A o ∧ ndf A o ≤ 9999) ∧ 1 ≤ nwt A o ∧ nwt A o ≤ 5) ∧
  (∀ t, t < 6 → -9999 ≤ nth A t ∧ nth A t ≤ 9999) ∧ (∀ t, nnn A ≤ t → ntl A t = false ∧ nth A t = 0) ∧ (∀ o, nko A ≤ o → nwd A o = false)
/-- joined by the first k observations -/
def ncn (A : zNt) (k : Nat) (s t : Nat) : Prop := ∀ C : Nat → Prop, (∀ o, o < k → nwd A o = false → (C (nfr A o) ↔ C (nto A o))) → (C s ↔ C t)
theorem ncn_rfl (A : zNt) (k s : Nat) : ncn A k s s := fun _ _ => Iff.rfl
theorem ncn_symm {A : zNt} {k s t : Nat} (h : ncn A k s t) : ncn A k t s := fun C hC => (h C hC).symm
theorem ncn_trans {A : zNt} {k s t u : Nat} (h : ncn A k s t) (h2 : ncn A k t u) : ncn A k s u := fun C hC => (h C hC).trans (h2 C hC)
theorem ncn_mono {A : zNt} {k k' s t : Nat} (hk : k ≤ k') (h : ncn A k s t) : ncn A k' s t := fun C hC => h C (fun o ho => hC o (by omega))
theorem ncn_edge {A : zNt} {k o : Nat} (ho : o < k) (hw : nwd A o = false) : ncn A k (nfr A o) (nto A o) := fun _ hC => hC o ho hw
theorem ncn_lt {A : zNt} (hA : zok A) {k s t : Nat} (hk : k ≤ nko A) (h : ncn A k s t) : s < nnn A ↔ t < nnn A :=
  h (fun u => u < nnn A) (fun o ho _ => by
    have := hA.2.2.1 o (by omega)
    exact ⟨fun _ => this.2.1, fun _ => this.1⟩)
noncomputable def cI (A : zNt) (s t : Nat) : Bool := @decide (ncn A (nko A) s t) (Classical.propDecidable _)
theorem cI_iff {A : zNt} {s t : Nat} : cI A s t = true ↔ ncn A (nko A) s t := @decide_eq_true_iff _ (Classical.propDecidable _)
theorem cI_rfl (A : zNt) (s : Nat) : cI A s s = true := cI_iff.mpr (ncn_rfl A _ s)
theorem cI_symm (A : zNt) (s t : Nat) : cI A s t = cI A t s := Bool.eq_iff_iff.mpr ⟨fun h => cI_iff.mpr (ncn_symm (cI_iff.mp h)), fun h => cI_iff.mpr (ncn_symm (cI_iff.mp h))⟩
theorem cI_trans {A : zNt} {s t u : Nat} (h : cI A s t = true) (h2 : cI A t u = true) : cI A s u = true := cI_iff.mpr (ncn_trans (cI_iff.mp h) (cI_iff.mp h2))
theorem cI_congr {A : zNt} {t u : Nat} (h : cI A t u = true) (s : Nat) : cI A s t = cI A s u := Bool.eq_iff_iff.mpr ⟨fun q => cI_trans q h, fun q => cI_trans q (by rw [cI_symm]; exact h)⟩
theorem cI_lt {A : zNt} (hA : zok A) {s t : Nat} (h : cI A s t = true) : s < nnn A ↔ t < nnn A := ncn_lt hA (Nat.le_refl _) (cI_iff.mp h)
theorem cI_edge {A : zNt} {o : Nat} (ho : o < nko A) (hw : nwd A o = false) : cI A (nfr A o) (nto A o) = true := cI_iff.mpr (ncn_edge ho hw)
/-- the first below n with p, or n -/
def zfst (p : Nat → Bool) : Nat → Nat
  | 0 => 0
  | n + 1 => if zfst p n < n then zfst p n else if p n = true then n else n + 1
theorem zfst_le (p : Nat → Bool) : ∀ n, zfst p n ≤ n
  | 0 => Nat.le_refl _
  | n + 1 => by
    have := zfst_le p n
    simp only [zfst]
    split
    · omega
    · split <;> omega
theorem zfst_at {p : Nat → Bool} {i : Nat} (hp : p i = true) (hn : ∀ j, j < i → p j = false) : ∀ n, i < n → zfst p n = i
  | 0, h => by omega
  | n + 1, h => by
    simp only [zfst]
    by_cases e : i = n
    · subst e
      rw [if_neg, if_pos hp]
      intro q
      have : ∀ m, m ≤ i → zfst p m = m := fun m => by
        induction m with
        | zero => intro _; rfl
        | succ m ih =>
          intro hm
          simp only [zfst]
          rw [ih (by omega), if_neg (by omega), if_neg (by rw [hn m (by omega)]; decide)]
      rw [this i (Nat.le_refl _)] at q
      omega
    · rw [zfst_at hp hn n (by omega), if_pos (by omega)]
theorem zfst_no {p : Nat → Bool} : ∀ n, (∀ j, j < n → p j = false) → zfst p n = n
  | 0, _ => rfl
  | n + 1, h => by
    simp only [zfst]
    rw [zfst_no n (fun j hj => h j (by omega)), if_neg (by omega), if_neg (by rw [h n (by omega)]; decide)]
theorem zfst_or (p : Nat → Bool) (n : Nat) : (zfst p n = n ∧ ∀ j, j < n → p j = false) ∨ (zfst p n < n ∧ p (zfst p n) = true ∧ ∀ j, j < zfst p n → p j = false) := by
  by_cases h : ∃ i, i < n ∧ p i = true
  · obtain ⟨i, h1, h2⟩ := pk_least (fun i => i < n ∧ p i = true) h
    have hn : ∀ j, j < i → p j = false := fun j hj => by
      cases hh : p j
      · rfl
      · exact absurd ⟨by omega, hh⟩ (h2 j hj)
    right
    rw [zfst_at h1.2 hn n h1.1]
    exact ⟨h1.1, h1.2, hn⟩
  · have hn : ∀ j, j < n → p j = false := fun j hj => by
      cases hh : p j
      · rfl
      · exact absurd ⟨j, hj, hh⟩ h
    exact Or.inl ⟨zfst_no n hn, hn⟩
/-- the lowest station of the part -/
noncomputable def lw (A : zNt) (t : Nat) : Nat := zfst (fun s => cI A s t) (t + 1)
theorem lw_spec (A : zNt) (t : Nat) : lw A t ≤ t ∧ cI A (lw A t) t = true ∧ ∀ j, j < lw A t → cI A j t = false := by
  rcases zfst_or (fun s => cI A s t) (t + 1) with ⟨-, h⟩ | ⟨h1, h2, h3⟩
  · have := h t (by omega)
    rw [cI_rfl] at this
    cases this
  · exact ⟨by unfold lw; omega, h2, h3⟩
theorem lw_eq {A : zNt} {s t : Nat} : lw A s = lw A t ↔ cI A s t = true := by
  obtain ⟨a1, a2, a3⟩ := lw_spec A s
  obtain ⟨b1, b2, b3⟩ := lw_spec A t
  refine ⟨fun h => ?_, fun h => ?_⟩
  · rw [h] at a2
    rw [cI_symm] at a2
    exact cI_trans a2 b2
  · rw [cI_congr h] at a2
    rcases Nat.lt_trichotomy (lw A s) (lw A t) with q | q | q
    · rw [b3 _ q] at a2
      cases a2
    · exact q
    · have := a3 _ q
      rw [cI_congr h, b2] at this
      cases this
theorem lw_of {A : zNt} {n : Nat} {f : Nat → Nat} (h1 : ∀ t, t < n → f t ≤ t ∧ cI A (f t) t = true) (h2 : ∀ s t, s < n → t < n → cI A s t = true → f s = f t) {t : Nat} (ht : t < n) : f t = lw A t := by
  obtain ⟨a1, a2, a3⟩ := lw_spec A t
  obtain ⟨b1, b2⟩ := h1 t ht
  have h3 := h2 (lw A t) t (by omega) ht a2
  have h4 := (h1 (lw A t) (by omega)).1
  rcases Nat.lt_trichotomy (f t) (lw A t) with q | q | q
  · rw [a3 _ q] at b2
    cases b2
  · exact q
  · omega
/-- the datum of the part of t -/
noncomputable def dat (A : zNt) (t : Nat) : Nat := if zfst (fun s => ntl A s && cI A s t) (nnn A) < nnn A then zfst (fun s => ntl A s && cI A s t) (nnn A) else lw A t
theorem dat_in (A : zNt) (t : Nat) : cI A (dat A t) t = true := by
  unfold dat
  split
  · rcases zfst_or (fun s => ntl A s && cI A s t) (nnn A) with ⟨h, -⟩ | ⟨-, h, -⟩
    · omega
    · simp only [Bool.and_eq_true] at h
      exact h.2
  · exact (lw_spec A t).2.1
theorem dat_lt {A : zNt} {t : Nat} (ht : t < nnn A) : dat A t < nnn A := by
  unfold dat
  split
  · assumption
  · have := (lw_spec A t).1
    omega
theorem dat_congr {A : zNt} {s t : Nat} (h : cI A s t = true) : dat A s = dat A t := by
  have e : (fun u => ntl A u && cI A u s) = (fun u => ntl A u && cI A u t) := funext (fun u => by rw [cI_congr h])
  unfold dat
  rw [e, lw_eq.mpr h]
/-- the part of t: stations, observations (less one), free stations -/
noncomputable def pS (A : zNt) (t : Nat) : List Nat := (List.range (nnn A)).filter (fun s => cI A s t)
theorem pS_in {A : zNt} {t s : Nat} : s ∈ pS A t ↔ s < nnn A ∧ cI A s t = true := by unfold pS; simp
def nEl (A : zNt) (p : Nat → Bool) : Nat → Nat → List zE
  | _, 0 => []
  | o, m + 1 => if p o = true then (nfr A o, nto A o, ndf A o, nwt A o) :: nEl A p (o + 1) m else nEl A p (o + 1) m
theorem nEl_in {A : zNt} {p : Nat → Bool} {e : zE} : ∀ {m o : Nat}, e ∈ nEl A p o m → ∃ i, o ≤ i ∧ i < o + m ∧ p i = true ∧ e = (nfr A i, nto A i, ndf A i, nwt A i)
  | 0, o, h => absurd h List.not_mem_nil
  | m + 1, o, h => by
    simp only [nEl] at h
    split at h
    · rename_i hp
      rcases List.mem_cons.mp h with h | h
      · exact ⟨o, Nat.le_refl _, by omega, hp, h⟩
      · obtain ⟨i, h1, h2, h3⟩ := nEl_in h
        exact ⟨i, by omega, by omega, h3⟩
    · obtain ⟨i, h1, h2, h3⟩ := nEl_in h
      exact ⟨i, by omega, by omega, h3⟩
theorem nEl_mem {A : zNt} {p : Nat → Bool} {i : Nat} (hp : p i = true) : ∀ {m o : Nat}, o ≤ i → i < o + m → (nfr A i, nto A i, ndf A i, nwt A i) ∈ nEl A p o m
  | 0, o, h1, h2 => by omega
  | m + 1, o, h1, h2 => by
    simp only [nEl]
    by_cases e : o = i
    · subst e
      rw [if_pos hp]
      exact List.mem_cons_self
    · split
      · exact List.mem_cons_of_mem _ (nEl_mem hp (by omega) (by omega))
      · exact nEl_mem hp (by omega) (by omega)
theorem nEl_len {A : zNt} {p : Nat → Bool} : ∀ {m o : Nat}, (nEl A p o m).length ≤ m
  | 0, o => Nat.le_refl _
  | m + 1, o => by
    simp only [nEl]
    split
    · have := nEl_len (A := A) (p := p) (m := m) (o := o + 1)
      simp only [List.length_cons]
      omega
    · have := nEl_len (A := A) (p := p) (m := m) (o := o + 1)
      omega
theorem nEl_congr {A : zNt} {p q : Nat → Bool} : ∀ {m o : Nat}, (∀ i, o ≤ i → i < o + m → p i = q i) → nEl A p o m = nEl A q o m
  | 0, o, _ => rfl
  | m + 1, o, h => by
    simp only [nEl]
    rw [h o (Nat.le_refl _) (by omega), nEl_congr (fun i h1 h2 => h i (by omega) (by omega))]
/-- the observations of the part of t, but w -/
noncomputable def pP (A : zNt) (t w : Nat) (o : Nat) : Bool := !nwd A o && cI A (nfr A o) t && o != w
noncomputable def pE (A : zNt) (t w : Nat) : List zE := nEl A (pP A t w) 0 (nko A)
noncomputable def pU (A : zNt) (t : Nat) (s : Nat) : Bool := cI A s t && s != dat A t
/-- the sum of the weights of all trees; how high s is by them, times that sum -/
noncomputable def pT (A : zNt) (t w : Nat) : Int := TD (pS A t) (pE A t w) (lU (pU A t) (dat A t))
noncomputable def pR (A : zNt) (t s : Nat) : Int := TS (pS A t) (fun q => q s - q (dat A t)) (pE A t 14) (lU (pU A t) (dat A t)) (fun _ => 0)
theorem pE_ok {A : zNt} (hA : zok A) {t w : Nat} : ∀ e ∈ pE A t w, e.1 ∈ pS A t ∧ e.2.1 ∈ pS A t := fun e he => by
  obtain ⟨i, h1, h2, h3, rfl⟩ := nEl_in he
  have hi : i < nko A := by omega
  obtain ⟨f1, f2, -⟩ := hA.2.2.1 i hi
  simp only [pP, Bool.and_eq_true, Bool.not_eq_true'] at h3
  refine ⟨pS_in.mpr ⟨f1, h3.1.2⟩, pS_in.mpr ⟨f2, ?_⟩⟩
  have := cI_edge hi h3.1.1
  rw [cI_symm] at this
  exact cI_trans this h3.1.2
theorem pE_w {A : zNt} (hA : zok A) {t w : Nat} : ∀ e ∈ pE A t w, 0 < e.2.2.2 ∧ e.2.2.2 ≤ 5 := fun e he => by
  obtain ⟨i, h1, h2, h3, rfl⟩ := nEl_in he
  obtain ⟨-, -, -, -, f5, f6⟩ := hA.2.2.1 i (by omega)
  exact ⟨by show 0 < nwt A i; omega, f6⟩
theorem pE_d {A : zNt} (hA : zok A) {t w : Nat} : ∀ e ∈ pE A t w, -9999 ≤ e.2.2.1 ∧ e.2.2.1 ≤ 9999 := fun e he => by
  obtain ⟨i, h1, h2, h3, rfl⟩ := nEl_in he
  exact (hA.2.2.1 i (by omega)).2.2.2.1
theorem pS_lt {A : zNt} (hA : zok A) {t : Nat} : ∀ s ∈ pS A t, s < 6 := fun s hs => by
  have := (pS_in.mp hs).1
  have := hA.1
  omega
theorem dat_S {A : zNt} {t : Nat} (ht : t < nnn A) : dat A t ∈ pS A t := pS_in.mpr ⟨dat_lt ht, dat_in A t⟩
theorem pU_d (A : zNt) (t : Nat) : pU A t (dat A t) = false := by simp [pU]
/-- the net has a tree -/
theorem pT_pos {A : zNt} (hA : zok A) {t : Nat} (ht : t < nnn A) : 0 < pT A t 14 := by
  refine TD_pos (pE A t 14) (fun e he => (pE_w hA e he).1) _ _ (fun C h1 h2 s hs u hu => ?_)
  have hC : ∀ o, o < nko A → nwd A o = false → (((C (nfr A o) ∧ cI A (nfr A o) t = true)) ↔ (C (nto A o) ∧ cI A (nto A o) t = true)) := fun o ho hw => by
    have e1 : cI A (nfr A o) t = cI A (nto A o) t := by
      rw [cI_symm A (nfr A o), cI_symm A (nto A o)]
      exact cI_congr (cI_edge ho hw) t
    rw [← e1]
    by_cases c : cI A (nfr A o) t = true
    · have hne : o ≠ 14 := by have := hA.2.1; omega
      have := h2 _ (nEl_mem (A := A) (p := pP A t 14) (i := o) (by simp [pP, hw, c, hne]) (Nat.zero_le _) (by omega))
      exact ⟨fun q => ⟨this.mp q.1, c⟩, fun q => ⟨this.mpr q.1, c⟩⟩
    · exact ⟨fun q => absurd q.2 c, fun q => absurd q.2 c⟩
  have hs' := (pS_in.mp hs).2
  have hu' := (pS_in.mp hu).2
  have hsu : cI A s u = true := cI_trans hs' (by rw [cI_symm]; exact hu')
  have := cI_iff.mp hsu (fun q => C q ∧ cI A q t = true) hC
  exact ⟨fun q => (this.mp ⟨q, hs'⟩).1, fun q => (this.mpr ⟨q, hu'⟩).1⟩
end ZNT

/-! TREES OF A NET: sums over all trees by taking or leaving one observation after the other; what a link between two pieces bears is what misfits without it (TS_link); forces on each piece are in balance (TS_force). -/
section ZG
abbrev zE : Type := Nat × Nat × Int × Int
def jl (f t : Nat) (lab : Nat → Nat) : Nat → Nat := fun s => if lab s = lab t then lab f else lab s
def jr (f t : Nat) (d : Int) (lab : Nat → Nat) (ris : Nat → Int) : Nat → Int := fun s => if lab s = lab t then ris s + (ris f + d - ris t) else ris s
abbrev zconn (S : List Nat) (lab : Nat → Nat) : Prop := ∀ s ∈ S, ∀ t ∈ S, lab s = lab t
def TS (S : List Nat) (v : (Nat → Int) → Int) : List zE → (Nat → Nat) → (Nat → Int) → Int
  | [], lab, ris => if zconn S lab then v ris else 0
  | e :: E, lab, ris => TS S v E lab ris + (if lab e.1 = lab e.2.1 then 0 else e.2.2.2 * TS S v E (jl e.1 e.2.1 lab) (jr e.1 e.2.1 e.2.2.1 lab ris))
theorem TS_add (S : List Nat) (v u : (Nat → Int) → Int) (E : List zE) (lab : Nat → Nat) (ris : Nat → Int) : TS S (fun r => v r + u r) E lab ris = TS S v E lab ris + TS S u E lab ris := by
  induction E generalizing lab ris with
  | nil =>
    simp only [TS]
    split <;> omega
  | cons e E ih =>
    simp only [TS, ih]
    split
    · omega
    · rw [Int.mul_add]
      omega
theorem TS_smul (S : List Nat) (k : Int) (v : (Nat → Int) → Int) (E : List zE) (lab : Nat → Nat) (ris : Nat → Int) : TS S (fun r => k * v r) E lab ris = k * TS S v E lab ris := by
  induction E generalizing lab ris with
  | nil =>
    simp only [TS]
    split
    · rfl
    · rw [Int.mul_zero]
  | cons e E ih =>
    simp only [TS, ih]
    split
    · rw [Int.add_zero, Int.add_zero]
    · rw [Int.mul_add, Int.mul_left_comm]
theorem TS_congr {S : List Nat} {v u : (Nat → Int) → Int} (h : ∀ r, v r = u r) (E : List zE) (lab : Nat → Nat) (ris : Nat → Int) : TS S v E lab ris = TS S u E lab ris := by
  have : v = u := funext h
  rw [this]
theorem TS_zero (S : List Nat) (E : List zE) (lab : Nat → Nat) (ris : Nat → Int) : TS S (fun _ => 0) E lab ris = 0 := by
  have h := TS_smul S 0 (fun _ => 0) E lab ris
  have h2 := TS_congr (S := S) (v := fun _ : Nat → Int => (0 : Int)) (u := fun _ => 0 * 0) (fun _ => rfl) E lab ris
  exact h2.trans (h.trans (Int.zero_mul _))
theorem TS_neg (S : List Nat) (v : (Nat → Int) → Int) (E : List zE) (lab : Nat → Nat) (ris : Nat → Int) : TS S (fun r => - v r) E lab ris = - TS S v E lab ris := by
  have h := TS_smul S (-1) v E lab ris
  rw [TS_congr (u := fun r => - v r) (fun r => by omega)] at h
  omega
/-- the sum of the weights of all trees -/
abbrev TD (S : List Nat) (E : List zE) (lab : Nat → Nat) : Int := TS S (fun _ => 1) E lab (fun _ => 0)
theorem TD_eq (S : List Nat) (E : List zE) (lab : Nat → Nat) (ris ris2 : Nat → Int) : TS S (fun _ => 1) E lab ris = TS S (fun _ => 1) E lab ris2 := by
  induction E generalizing lab ris ris2 with
  | nil => rfl
  | cons e E ih =>
    simp only [TS]
    rw [ih lab ris ris2, ih _ (jr e.1 e.2.1 e.2.2.1 lab ris) (jr e.1 e.2.1 e.2.2.1 lab ris2)]
theorem TS_const (S : List Nat) (k : Int) (E : List zE) (lab : Nat → Nat) (ris : Nat → Int) : TS S (fun _ => k) E lab ris = k * TD S E lab := by
  have h := TS_smul S k (fun _ => 1) E lab ris
  rw [TD_eq S E lab ris (fun _ => 0)] at h
  rw [← h]
  exact TS_congr (fun _ => by omega) E lab ris
theorem TS_aff (S : List Nat) (a b : Nat) (d : Int) (E : List zE) (lab : Nat → Nat) (ris : Nat → Int) : TS S (fun r => r a - r b - d) E lab ris = TS S (fun r => r a - r b) E lab ris - d * TD S E lab := by
  have h := TS_add S (fun r => r a - r b) (fun _ => - d) E lab ris
  rw [TS_const, TS_congr (u := fun r => r a - r b - d) (fun r => by omega), Int.neg_mul] at h
  omega
/-- two states of pieces that are the same but for names and heights of pieces -/
def zeq (lab lab2 : Nat → Nat) (ris ris2 : Nat → Int) : Prop := ∀ s t, (lab s = lab t ↔ lab2 s = lab2 t) ∧ (lab s = lab t → ris s - ris t = ris2 s - ris2 t)
theorem zeq_rfl (lab : Nat → Nat) (ris : Nat → Int) : zeq lab lab ris ris := fun _ _ => ⟨Iff.rfl, fun _ => rfl⟩
theorem zeq_join {lab lab2 : Nat → Nat} {ris ris2 : Nat → Int} (h : zeq lab lab2 ris ris2) (f t : Nat) (d : Int) : zeq (jl f t lab) (jl f t lab2) (jr f t d lab ris) (jr f t d lab2 ris2) := by
  intro s u
  obtain ⟨a1, b1⟩ := h s u
  obtain ⟨a2, b2⟩ := h s t
  obtain ⟨a3, b3⟩ := h u t
  obtain ⟨a4, b4⟩ := h s f
  obtain ⟨a5, b5⟩ := h u f
  obtain ⟨a6, b6⟩ := h f t
  by_cases c2 : lab s = lab t <;> by_cases c3 : lab u = lab t
  · have e2 := a2.mp c2
    have e3 := a3.mp c3
    simp only [jl, jr, if_pos c2, if_pos c3, if_pos e2, if_pos e3]
    refine ⟨by simp, fun _ => ?_⟩
    have := b1 (c2.trans c3.symm)
    omega
  · have e2 := a2.mp c2
    have e3 : ¬ lab2 u = lab2 t := fun q => c3 (a3.mpr q)
    simp only [jl, jr, if_pos c2, if_neg c3, if_pos e2, if_neg e3]
    refine ⟨⟨fun q => (a5.mp q.symm).symm, fun q => (a5.mpr q.symm).symm⟩, fun q => ?_⟩
    have h5 := b5 q.symm
    have h2 := b2 c2
    omega
  · have e2 : ¬ lab2 s = lab2 t := fun q => c2 (a2.mpr q)
    have e3 := a3.mp c3
    simp only [jl, jr, if_neg c2, if_pos c3, if_neg e2, if_pos e3]
    refine ⟨a4, fun q => ?_⟩
    have h4 := b4 q
    have h3 := b3 c3
    omega
  · have e2 : ¬ lab2 s = lab2 t := fun q => c2 (a2.mpr q)
    have e3 : ¬ lab2 u = lab2 t := fun q => c3 (a3.mpr q)
    simp only [jl, jr, if_neg c2, if_neg c3, if_neg e2, if_neg e3]
    exact ⟨a1, b1⟩
theorem TS_zeq {S : List Nat} {v : (Nat → Int) → Int} (hv : ∀ r r2 : Nat → Int, (∀ s ∈ S, ∀ t ∈ S, r s - r t = r2 s - r2 t) → v r = v r2) (E : List zE) {lab lab2 : Nat → Nat} {ris ris2 : Nat → Int} (h : zeq lab lab2 ris ris2) : TS S v E lab ris = TS S v E lab2 ris2 := by
  induction E generalizing lab lab2 ris ris2 with
  | nil =>
    simp only [TS]
    by_cases c : zconn S lab
    · have c2 : zconn S lab2 := fun s hs t ht => (h s t).1.mp (c s hs t ht)
      rw [if_pos c, if_pos c2]
      exact hv _ _ (fun s hs t ht => (h s t).2 (c s hs t ht))
    · have c2 : ¬ zconn S lab2 := fun q => c (fun s hs t ht => (h s t).1.mpr (q s hs t ht))
      rw [if_neg c, if_neg c2]
  | cons e E ih =>
    simp only [TS]
    rw [ih h]
    by_cases c : lab e.1 = lab e.2.1
    · rw [if_pos c, if_pos ((h _ _).1.mp c)]
    · rw [if_neg c, if_neg (fun q => c ((h _ _).1.mpr q)), ih (zeq_join h e.1 e.2.1 e.2.2.1)]
theorem TD_zeq (S : List Nat) (E : List zE) {lab lab2 : Nat → Nat} (h : ∀ s t, lab s = lab t ↔ lab2 s = lab2 t) : TD S E lab = TD S E lab2 := TS_zeq (fun _ _ _ => rfl) E (fun s t => ⟨h s t, fun _ => rfl⟩)
theorem TS_rigid (S : List Nat) (a b : Nat) (E : List zE) (lab : Nat → Nat) (ris : Nat → Int) (h : lab a = lab b) : TS S (fun r => r a - r b) E lab ris = (ris a - ris b) * TD S E lab := by
  induction E generalizing lab ris with
  | nil =>
    simp only [TS]
    split
    · rw [Int.mul_one]
    · rw [Int.mul_zero]
  | cons e E ih =>
    have h1 : jl e.1 e.2.1 lab a = jl e.1 e.2.1 lab b := by simp only [jl, h]
    have h2 : jr e.1 e.2.1 e.2.2.1 lab ris a - jr e.1 e.2.1 e.2.2.1 lab ris b = ris a - ris b := by
      simp only [jr, h]
      split <;> omega
    simp only [TS]
    rw [ih lab ris h, ih _ _ h1, h2, TD_eq S E (jl e.1 e.2.1 lab) (jr e.1 e.2.1 e.2.2.1 lab (fun _ => 0)) (fun _ => 0)]
    split
    · rw [Int.add_zero, Int.add_zero]
    · rw [Int.mul_add, Int.mul_left_comm]
theorem TS_join0 (S : List Nat) (f t : Nat) (d : Int) (E : List zE) (lab : Nat → Nat) (ris : Nat → Int) (h : lab f ≠ lab t) : TS S (fun r => r t - r f - d) E (jl f t lab) (jr f t d lab ris) = 0 := by
  have h1 : jl f t lab t = jl f t lab f := by simp [jl, h]
  have h2 : jr f t d lab ris t - jr f t d lab ris f = d := by
    unfold jr
    rw [if_pos rfl, if_neg h]
    omega
  rw [TS_aff, TS_rigid S t f E _ _ h1, h2]
  omega
/-- the forces of the observations G on the stations, each counted by χ -/
def VF (χ : Nat → Int) : List zE → (Nat → Int) → Int
  | [], _ => 0
  | e :: G, r => e.2.2.2 * (χ e.1 - χ e.2.1) * (r e.2.1 - r e.1 - e.2.2.1) + VF χ G r
theorem VF_cons (S : List Nat) (χ : Nat → Int) (e : zE) (G E : List zE) (lab : Nat → Nat) (ris : Nat → Int) : TS S (VF χ (e :: G)) E lab ris = e.2.2.2 * (χ e.1 - χ e.2.1) * TS S (fun r => r e.2.1 - r e.1 - e.2.2.1) E lab ris + TS S (VF χ G) E lab ris := by
  have h := TS_add S (fun r => e.2.2.2 * (χ e.1 - χ e.2.1) * (r e.2.1 - r e.1 - e.2.2.1)) (VF χ G) E lab ris
  rw [TS_smul] at h
  exact h
theorem VF_add (χ ψ : Nat → Int) (G : List zE) (r : Nat → Int) : VF (fun s => χ s + ψ s) G r = VF χ G r + VF ψ G r := by
  induction G with
  | nil => rfl
  | cons e G ih =>
    simp only [VF, ih]
    rw [show χ e.1 + ψ e.1 - (χ e.2.1 + ψ e.2.1) = (χ e.1 - χ e.2.1) + (ψ e.1 - ψ e.2.1) by omega, Int.mul_add, Int.add_mul]
    omega
theorem VF_inv {S : List Nat} {G : List zE} (hG : ∀ e ∈ G, e.1 ∈ S ∧ e.2.1 ∈ S) (χ : Nat → Int) (r r2 : Nat → Int) (h : ∀ s ∈ S, ∀ t ∈ S, r s - r t = r2 s - r2 t) : VF χ G r = VF χ G r2 := by
  induction G with
  | nil => rfl
  | cons e G ih =>
    simp only [VF]
    obtain ⟨h1, h2⟩ := hG e List.mem_cons_self
    rw [ih (fun e he => hG e (List.mem_cons_of_mem _ he)), h _ h2 _ h1]
theorem VF_ext {χ ψ : Nat → Int} (h : ∀ s, χ s = ψ s) (G : List zE) (r : Nat → Int) : VF χ G r = VF ψ G r := by
  have : χ = ψ := funext h
  rw [this]
/-- which stations are in the piece of a -/
abbrev zchi (lab : Nat → Nat) (a : Nat) : Nat → Int := fun s => if lab s = lab a then 1 else 0
theorem TS_link {S : List Nat} (E : List zE) (hE : ∀ e ∈ E, e.1 ∈ S ∧ e.2.1 ∈ S) (a b : Nat) (d : Int) (lab : Nat → Nat) (ris : Nat → Int) (ha : a ∈ S) (hb : b ∈ S) (hab : lab a ≠ lab b) :
    TS S (fun r => r b - r a - d) E lab ris = - TS S (VF (zchi lab a) E) E (jl a b lab) (jr a b d lab ris) := by
  induction E generalizing lab ris a b d with
  | nil =>
    have c : ¬ zconn S lab := fun q => hab (q a ha b hb)
    simp only [TS, VF, if_neg c]
    split <;> rfl
  | cons e E ih =>
    obtain ⟨hf, ht⟩ := hE e List.mem_cons_self
    have hE2 : ∀ e ∈ E, e.1 ∈ S ∧ e.2.1 ∈ S := fun e he => hE e (List.mem_cons_of_mem _ he)
    have ih := fun a b d lab ris => ih hE2 a b d lab ris
    have hvF : ∀ χ : Nat → Int, ∀ r r2 : Nat → Int, (∀ s ∈ S, ∀ t ∈ S, r s - r t = r2 s - r2 t) → VF χ E r = VF χ E r2 := fun χ r r2 h => VF_inv hE2 χ r r2 h
    obtain ⟨f, t, d0, w⟩ := e
    simp only at hf ht
    have h0 := ih a b d lab ris ha hb hab
    simp only [TS]
    rw [VF_cons, VF_cons, h0]
    simp only
    by_cases c1 : lab f = lab t
    · have c2 : jl a b lab f = jl a b lab t := by simp only [jl, c1]
      have c3 : zchi lab a f - zchi lab a t = 0 := by simp only [zchi, c1]; omega
      rw [if_pos c1, if_pos c2, c3]
      simp only [Int.mul_zero, Int.zero_mul, Int.zero_add, Int.add_zero]
    · rw [if_neg c1]
      by_cases c2 : jl a b lab f = jl a b lab t
      · rw [if_pos c2]
        have c4 : (lab f = lab a ∧ lab t = lab b) ∨ (lab f = lab b ∧ lab t = lab a) := by
          simp only [jl] at c2
          split at c2 <;> split at c2 <;> omega
        rcases c4 with ⟨c5, c6⟩ | ⟨c5, c6⟩
        · have x1 : zchi lab a f - zchi lab a t = 1 := by
            simp only [zchi, if_pos c5, if_neg (show ¬ lab t = lab a by omega)]
            rfl
          have y1 : jl f t lab b = jl f t lab a := by
            simp only [jl]
            split <;> split <;> omega
          have y2 : jl a b lab t = jl a b lab f := c2.symm
          have y3 : jr f t d0 lab ris b - jr f t d0 lab ris a = ris b + ris f + d0 - ris t - ris a := by
            simp only [jr, if_pos c6.symm, if_neg (show ¬ lab a = lab t by omega)]
            omega
          have y4 : jr a b d lab ris t - jr a b d lab ris f = ris t + ris a + d - ris b - ris f := by
            simp only [jr, if_pos c6, if_neg (show ¬ lab f = lab b by omega)]
            omega
          have y5 : TD S E (jl f t lab) = TD S E (jl a b lab) := TD_zeq S E (fun s u => by
            simp only [jl]
            split <;> split <;> split <;> split <;> omega)
          rw [x1, TS_aff, TS_aff, TS_rigid S b a E _ _ y1, TS_rigid S t f E _ _ y2, y3, y4, y5]
          generalize TD S E (jl a b lab) = Z
          generalize TS S (VF (zchi lab a) E) E (jl a b lab) (jr a b d lab ris) = Y
          grind
        · have x1 : zchi lab a f - zchi lab a t = -1 := by
            simp only [zchi, if_pos c6, if_neg (show ¬ lab f = lab a by omega)]
            rfl
          have y1 : jl f t lab b = jl f t lab a := by
            simp only [jl]
            split <;> split <;> omega
          have y2 : jl a b lab t = jl a b lab f := c2.symm
          have y3 : jr f t d0 lab ris b - jr f t d0 lab ris a = ris b - ris a - ris f - d0 + ris t := by
            simp only [jr, if_pos c6.symm, if_neg (show ¬ lab b = lab t by omega)]
            omega
          have y4 : jr a b d lab ris t - jr a b d lab ris f = ris t - ris f - ris a - d + ris b := by
            simp only [jr, if_pos c5, if_neg (show ¬ lab t = lab b by omega)]
            omega
          have y5 : TD S E (jl f t lab) = TD S E (jl a b lab) := TD_zeq S E (fun s u => by
            simp only [jl]
            split <;> split <;> split <;> split <;> omega)
          rw [x1, TS_aff, TS_aff, TS_rigid S b a E _ _ y1, TS_rigid S t f E _ _ y2, y3, y4, y5]
          generalize TD S E (jl a b lab) = Z
          generalize TS S (VF (zchi lab a) E) E (jl a b lab) (jr a b d lab ris) = Y
          grind
      · rw [if_neg c2]
        have z0 := TS_join0 S f t d0 E (jl a b lab) (jr a b d lab ris) c2
        have hab1 : jl f t lab a ≠ jl f t lab b := by
          simp only [jl] at c2 ⊢
          split <;> split <;> split at c2 <;> split at c2 <;> omega
        have h1 := ih a b d (jl f t lab) (jr f t d0 lab ris) ha hb hab1
        have hz : zeq (jl a b (jl f t lab)) (jl f t (jl a b lab)) (jr a b d (jl f t lab) (jr f t d0 lab ris)) (jr f t d0 (jl a b lab) (jr a b d lab ris)) := by
          intro s u
          simp only [jl, jr] at c2 hab1 ⊢
          grind
        rw [z0, h1, TS_zeq (hvF _) E hz]
        by_cases cf : lab f = lab a
        · have x1 : zchi lab a f - zchi lab a t = 1 := by
            simp only [zchi, if_pos cf, if_neg (show ¬ lab t = lab a by omega)]
            rfl
          have ctb : lab t ≠ lab b := fun q => c2 (by simp only [jl, if_pos q, if_neg (show ¬ lab f = lab b by omega)]; exact cf)
          have h2 := ih t f (-d0) (jl a b lab) (jr a b d lab ris) ht hf (fun q => c2 q.symm)
          have hz2 : zeq (jl t f (jl a b lab)) (jl f t (jl a b lab)) (jr t f (-d0) (jl a b lab) (jr a b d lab ris)) (jr f t d0 (jl a b lab) (jr a b d lab ris)) := by
            intro s u
            generalize jl a b lab = L at c2 ⊢
            generalize jr a b d lab ris = R
            simp only [jl, jr]
            grind
          rw [TS_zeq (hvF _) E hz2] at h2
          have h3 : TS S (fun r => r t - r f - d0) E (jl a b lab) (jr a b d lab ris) = - TS S (fun r => r f - r t - -d0) E (jl a b lab) (jr a b d lab ris) := by
            rw [← TS_neg]
            exact TS_congr (fun r => by omega) _ _ _
          have h4 : TS S (VF (zchi (jl f t lab) a) E) E (jl f t (jl a b lab)) (jr f t d0 (jl a b lab) (jr a b d lab ris)) = TS S (VF (zchi lab a) E) E (jl f t (jl a b lab)) (jr f t d0 (jl a b lab) (jr a b d lab ris)) + TS S (VF (zchi (jl a b lab) t) E) E (jl f t (jl a b lab)) (jr f t d0 (jl a b lab) (jr a b d lab ris)) := by
            rw [← TS_add]
            refine TS_congr (fun r => ?_) _ _ _
            rw [← VF_add]
            refine VF_ext (fun s => ?_) _ _
            simp only [zchi, jl]
            grind
          rw [x1, h3, h2, h4]
          generalize TS S (VF (zchi lab a) E) E (jl f t (jl a b lab)) (jr f t d0 (jl a b lab) (jr a b d lab ris)) = Y1
          generalize TS S (VF (zchi (jl a b lab) t) E) E (jl f t (jl a b lab)) (jr f t d0 (jl a b lab) (jr a b d lab ris)) = Y2
          generalize TS S (VF (zchi lab a) E) E (jl a b lab) (jr a b d lab ris) = Y3
          grind
        · by_cases ct : lab t = lab a
          · have x1 : zchi lab a f - zchi lab a t = -1 := by
              simp only [zchi, if_pos ct, if_neg cf]
              rfl
            have cfb : lab f ≠ lab b := fun q => c2 (by simp only [jl, if_pos q, if_neg (show ¬ lab t = lab b by omega)]; exact ct.symm)
            have h2 := ih f t d0 (jl a b lab) (jr a b d lab ris) hf ht c2
            have h4 : TS S (VF (zchi (jl f t lab) a) E) E (jl f t (jl a b lab)) (jr f t d0 (jl a b lab) (jr a b d lab ris)) = TS S (VF (zchi lab a) E) E (jl f t (jl a b lab)) (jr f t d0 (jl a b lab) (jr a b d lab ris)) + TS S (VF (zchi (jl a b lab) f) E) E (jl f t (jl a b lab)) (jr f t d0 (jl a b lab) (jr a b d lab ris)) := by
              rw [← TS_add]
              refine TS_congr (fun r => ?_) _ _ _
              rw [← VF_add]
              refine VF_ext (fun s => ?_) _ _
              simp only [zchi, jl]
              grind
            rw [x1, h2, h4]
            generalize TS S (VF (zchi lab a) E) E (jl f t (jl a b lab)) (jr f t d0 (jl a b lab) (jr a b d lab ris)) = Y1
            generalize TS S (VF (zchi (jl a b lab) f) E) E (jl f t (jl a b lab)) (jr f t d0 (jl a b lab) (jr a b d lab ris)) = Y2
            generalize TS S (VF (zchi lab a) E) E (jl a b lab) (jr a b d lab ris) = Y3
            grind
          · have x1 : zchi lab a f - zchi lab a t = 0 := by
              simp only [zchi, if_neg cf, if_neg ct]
              rfl
            have h4 : TS S (VF (zchi (jl f t lab) a) E) E (jl f t (jl a b lab)) (jr f t d0 (jl a b lab) (jr a b d lab ris)) = TS S (VF (zchi lab a) E) E (jl f t (jl a b lab)) (jr f t d0 (jl a b lab) (jr a b d lab ris)) := by
              refine TS_congr (fun r => ?_) _ _ _
              refine VF_ext (fun s => ?_) _ _
              simp only [zchi, jl]
              grind
            rw [x1, h4]
            generalize TS S (VF (zchi lab a) E) E (jl f t (jl a b lab)) (jr f t d0 (jl a b lab) (jr a b d lab ris)) = Y1
            generalize TS S (VF (zchi lab a) E) E (jl a b lab) (jr a b d lab ris) = Y3
            grind
/-- the forces on a piece are in balance -/
theorem TS_force {S : List Nat} (E : List zE) (hE : ∀ e ∈ E, e.1 ∈ S ∧ e.2.1 ∈ S) (a : Nat) (lab : Nat → Nat) (ris : Nat → Int) (ha : a ∈ S) :
    TS S (VF (zchi lab a) E) E lab ris = 0 := by
  induction E generalizing lab ris a with
  | nil =>
    simp only [TS, VF]
    split <;> rfl
  | cons e E ih =>
    obtain ⟨hf, ht⟩ := hE e List.mem_cons_self
    have hE2 : ∀ e ∈ E, e.1 ∈ S ∧ e.2.1 ∈ S := fun e he => hE e (List.mem_cons_of_mem _ he)
    have ih := fun a lab ris => ih hE2 a lab ris
    have hvF : ∀ χ : Nat → Int, ∀ r r2 : Nat → Int, (∀ s ∈ S, ∀ t ∈ S, r s - r t = r2 s - r2 t) → VF χ E r = VF χ E r2 := fun χ r r2 h => VF_inv hE2 χ r r2 h
    obtain ⟨f, t, d0, w⟩ := e
    simp only at hf ht
    simp only [TS]
    rw [VF_cons, VF_cons, ih a lab ris ha]
    simp only
    by_cases c1 : lab f = lab t
    · have c3 : zchi lab a f - zchi lab a t = 0 := by simp only [zchi, c1]; omega
      rw [if_pos c1, c3]
      simp only [Int.mul_zero, Int.zero_mul, Int.add_zero]
    · rw [if_neg c1, TS_join0 S f t d0 E lab ris c1]
      by_cases cf : lab f = lab a
      · have x1 : zchi lab a f - zchi lab a t = 1 := by
          simp only [zchi, if_pos cf, if_neg (show ¬ lab t = lab a by omega)]
          rfl
        have h2 := TS_link E hE2 f t d0 lab ris hf ht c1
        have h4 : TS S (VF (zchi lab f) E) E (jl f t lab) (jr f t d0 lab ris) = TS S (VF (zchi lab a) E) E (jl f t lab) (jr f t d0 lab ris) := by
          refine TS_congr (fun r => VF_ext (fun s => ?_) _ _) _ _ _
          simp only [zchi, cf]
        rw [x1, h2, h4]
        generalize TS S (VF (zchi lab a) E) E (jl f t lab) (jr f t d0 lab ris) = Y1
        grind
      · by_cases ct : lab t = lab a
        · have x1 : zchi lab a f - zchi lab a t = -1 := by
            simp only [zchi, if_pos ct, if_neg cf]
            rfl
          have h2 := TS_link E hE2 t f (-d0) lab ris ht hf (fun q => c1 q.symm)
          have hz2 : zeq (jl t f lab) (jl f t lab) (jr t f (-d0) lab ris) (jr f t d0 lab ris) := by
            intro s u
            simp only [jl, jr]
            grind
          rw [TS_zeq (hvF _) E hz2] at h2
          have h3 : TS S (fun r => r t - r f - d0) E lab ris = - TS S (fun r => r f - r t - -d0) E lab ris := by
            rw [← TS_neg]
            exact TS_congr (fun r => by omega) _ _ _
          have h4 : TS S (VF (zchi lab t) E) E (jl f t lab) (jr f t d0 lab ris) = TS S (VF (zchi lab a) E) E (jl f t lab) (jr f t d0 lab ris) := by
            refine TS_congr (fun r => VF_ext (fun s => ?_) _ _) _ _ _
            simp only [zchi, ct]
          rw [x1, h3, h2, h4]
          generalize TS S (VF (zchi lab a) E) E (jl f t lab) (jr f t d0 lab ris) = Y1
          grind
        · have x1 : zchi lab a f - zchi lab a t = 0 := by
            simp only [zchi, if_neg cf, if_neg ct]
            rfl
          have h5 := ih a (jl f t lab) (jr f t d0 lab ris) ha
          have h4 : TS S (VF (zchi (jl f t lab) a) E) E (jl f t lab) (jr f t d0 lab ris) = TS S (VF (zchi lab a) E) E (jl f t lab) (jr f t d0 lab ris) := by
            refine TS_congr (fun r => VF_ext (fun s => ?_) _ _) _ _ _
            simp only [zchi, jl]
            grind
          rw [x1, ← h4, h5]
          simp only [Int.mul_zero, Int.zero_mul, Int.add_zero]
end ZG

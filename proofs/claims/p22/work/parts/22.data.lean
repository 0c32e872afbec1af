/-! THE EQUATIONS OF A NET ARE SOLVED BY SUMS OVER TREES -/
section ZD
theorem TP_sub (S : List Nat) (a b c : Nat) (E : List zE) (lab : Nat → Nat) (ris : Nat → Int) : TS S (fun r => r a - r b) E lab ris = TS S (fun r => r a - r c) E lab ris - TS S (fun r => r b - r c) E lab ris := by
  have h := TS_add S (fun r => r a - r c) (fun r => - (r b - r c)) E lab ris
  rw [TS_neg, TS_congr (u := fun r => r a - r b) (fun r => by omega)] at h
  omega
def VG (χ : Nat → Int) (D : Int) (P : Nat → Int) : List zE → Int
  | [] => 0
  | e :: G => e.2.2.2 * (χ e.1 - χ e.2.1) * (P e.2.1 - P e.1 - e.2.2.1 * D) + VG χ D P G
theorem VF_VG (S : List Nat) (χ : Nat → Int) (G E : List zE) (lab : Nat → Nat) (ris : Nat → Int) (c : Nat) : TS S (VF χ G) E lab ris = VG χ (TD S E lab) (fun s => TS S (fun r => r s - r c) E lab ris) G := by
  induction G with
  | nil => exact TS_zero S E lab ris
  | cons e G ih =>
    rw [VF_cons, ih, TS_aff, TP_sub S e.2.1 e.1 c]
    rfl
def zd (r s : Nat) : Int := if s = r then 1 else 0
def Lp : List zE → Nat → Nat → Int
  | [], _, _ => 0
  | e :: G, r, j => e.2.2.2 * (zd r e.1 - zd r e.2.1) * (zd j e.1 - zd j e.2.1) + Lp G r j
def Lb : List zE → Nat → Int
  | [], _ => 0
  | e :: G, r => e.2.2.2 * (zd r e.2.1 - zd r e.1) * e.2.2.1 + Lb G r
theorem sN_pick (P : Nat → Int) (f : Nat) : ∀ N, sN (fun j => zd j f * P j) N = if f < N then P f else 0
  | 0 => rfl
  | N + 1 => by
    simp only [sN]
    rw [sN_pick P f N]
    unfold zd
    by_cases h : f = N
    · subst h
      rw [if_neg (by omega), if_pos rfl, if_pos (by omega)]
      omega
    · rw [if_neg h]
      by_cases h2 : f < N
      · rw [if_pos h2, if_pos (by omega)]
        omega
      · rw [if_neg h2, if_neg (by omega)]
        omega
theorem VG_Lp (r : Nat) (D : Int) (P : Nat → Int) (N : Nat) (G : List zE) (hG : ∀ e ∈ G, e.1 < N ∧ e.2.1 < N) : VG (zd r) D P G = D * Lb G r - sN (fun j => Lp G r j * P j) N := by
  induction G with
  | nil =>
    simp only [VG, Lb, Lp]
    rw [sN_zero N (fun j _ => Int.zero_mul _)]
    omega
  | cons e G ih =>
    obtain ⟨h1, h2⟩ := hG e List.mem_cons_self
    have ih := ih (fun e he => hG e (List.mem_cons_of_mem _ he))
    have p1 := sN_pick P e.1 N
    have p2 := sN_pick P e.2.1 N
    rw [if_pos h1] at p1
    rw [if_pos h2] at p2
    have e1 : sN (fun j => Lp (e :: G) r j * P j) N = e.2.2.2 * (zd r e.1 - zd r e.2.1) * (P e.1 - P e.2.1) + sN (fun j => Lp G r j * P j) N := by
      rw [sN_congr (g := fun j => (e.2.2.2 * (zd r e.1 - zd r e.2.1)) * (zd j e.1 * P j) + ((-(e.2.2.2 * (zd r e.1 - zd r e.2.1))) * (zd j e.2.1 * P j) + Lp G r j * P j)) N (fun j _ => by simp only [Lp]; grind), sN_add, sN_add, sN_smul, sN_smul, p1, p2]
      grind
    simp only [VG, Lb]
    rw [ih, e1]
    grind
/-- stations that are free stand for themselves, all others for the datum -/
def lU (U : Nat → Bool) (d0 : Nat) : Nat → Nat := fun s => if U s = true then s else d0
theorem lU_eq {U : Nat → Bool} {d0 : Nat} (h0 : U d0 = false) (s t : Nat) : lU U d0 s = lU U d0 t ↔ s = t ∨ (U s = false ∧ U t = false) := by
  unfold lU
  by_cases h1 : U s = true <;> by_cases h2 : U t = true
  · rw [if_pos h1, if_pos h2]
    simp [h1]
  · rw [if_pos h1, if_neg h2]
    refine ⟨fun h => ?_, fun h => ?_⟩
    · rw [h] at h1; rw [h0] at h1; cases h1
    · rcases h with h | h
      · subst h; exact absurd h1 h2
      · rw [h.1] at h1; cases h1
  · rw [if_neg h1, if_pos h2]
    refine ⟨fun h => ?_, fun h => ?_⟩
    · rw [← h] at h2; rw [h0] at h2; cases h2
    · rcases h with h | h
      · subst h; exact absurd h2 h1
      · rw [h.2] at h2; cases h2
  · rw [if_neg h1, if_neg h2]
    simp [h1, h2]
theorem zchi_lU {U : Nat → Bool} {d0 r : Nat} (h0 : U d0 = false) (hr : U r = true) (s : Nat) : zchi (lU U d0) r s = zd r s := by
  unfold zchi zd
  have h := lU_eq h0 s r
  by_cases e : s = r
  · rw [if_pos e, if_pos (h.mpr (Or.inl e))]
  · rw [if_neg e, if_neg (fun q => by rcases h.mp q with h1 | h1; exact e h1; rw [hr] at h1; exact absurd h1.2 (by decide))]
/-- the equations, solved by the sums over trees -/
theorem Lp_eq {S : List Nat} {E : List zE} (hE : ∀ e ∈ E, e.1 ∈ S ∧ e.2.1 ∈ S) {N : Nat} (hS : ∀ s ∈ S, s < N) {U : Nat → Bool} {d0 r : Nat} (h0 : U d0 = false) (hr : U r = true) (hrS : r ∈ S) (ris : Nat → Int) :
    sN (fun j => Lp E r j * TS S (fun q => q j - q d0) E (lU U d0) ris) N = TD S E (lU U d0) * Lb E r := by
  have h := TS_force E hE r (lU U d0) ris hrS
  rw [TS_congr (fun q => VF_ext (zchi_lU h0 hr) E q), VF_VG S _ E E _ ris d0, VG_Lp r _ _ N E (fun e he => ⟨hS _ (hE e he).1, hS _ (hE e he).2⟩)] at h
  omega
theorem TP_fixed {S : List Nat} {E : List zE} {U : Nat → Bool} {d0 s : Nat} (h0 : U d0 = false) (hs : U s = false) (ris : Nat → Int) : TS S (fun q => q s - q d0) E (lU U d0) ris = (ris s - ris d0) * TD S E (lU U d0) :=
  TS_rigid S s d0 E _ ris ((lU_eq h0 s d0).mpr (Or.inr ⟨hs, h0⟩))
/-- the observations, all differences 0 -/
def zE0 (E : List zE) : List zE := E.map (fun e => (e.1, e.2.1, 0, e.2.2.2))
theorem Lp_E0 (E : List zE) (r j : Nat) : Lp (zE0 E) r j = Lp E r j := by
  induction E with
  | nil => rfl
  | cons e E ih => simp only [zE0, List.map_cons, Lp] at ih ⊢; rw [ih]
theorem Lb_E0 (E : List zE) (r : Nat) : Lb (zE0 E) r = 0 := by
  induction E with
  | nil => rfl
  | cons e E ih => simp only [zE0, List.map_cons, Lb] at ih ⊢; rw [ih]; omega
theorem TD_E0 (S : List Nat) (E : List zE) (lab : Nat → Nat) : TD S (zE0 E) lab = TD S E lab := by
  induction E generalizing lab with
  | nil => rfl
  | cons e E ih =>
    have h1 := TD_eq S (zE0 E) (jl e.1 e.2.1 lab) (jr e.1 e.2.1 0 lab (fun _ => 0)) (fun _ => 0)
    have h2 := TD_eq S E (jl e.1 e.2.1 lab) (jr e.1 e.2.1 e.2.2.1 lab (fun _ => 0)) (fun _ => 0)
    have ih1 := ih lab
    have ih2 := ih (jl e.1 e.2.1 lab)
    simp only [zE0, List.map_cons, TS, TD] at ih1 ih2 h1 h2 ⊢
    rw [h1, h2, ih1, ih2]
theorem E0_in {S : List Nat} {E : List zE} (hE : ∀ e ∈ E, e.1 ∈ S ∧ e.2.1 ∈ S) : ∀ e ∈ zE0 E, e.1 ∈ S ∧ e.2.1 ∈ S := by
  intro e he
  obtain ⟨e', h1, rfl⟩ := List.mem_map.mp he
  exact hE e' h1
theorem jr_0 (f t : Nat) (lab : Nat → Nat) : jr f t 0 lab (fun _ => 0) = fun _ => 0 := by
  funext s
  unfold jr
  split <;> rfl
theorem TS_0 (S : List Nat) (v : (Nat → Int) → Int) (E : List zE) (lab : Nat → Nat) : TS S v (zE0 E) lab (fun _ => 0) = v (fun _ => 0) * TD S (zE0 E) lab := by
  induction E generalizing lab with
  | nil =>
    simp only [zE0, List.map_nil, TS]
    split
    · omega
    · omega
  | cons e E ih =>
    have ih1 := ih lab
    have ih2 := ih (jl e.1 e.2.1 lab)
    simp only [zE0, List.map_cons, TS, jr_0, TD] at ih1 ih2 ⊢
    rw [ih1, ih2]
    split
    · rw [Int.add_zero, Int.add_zero]
    · rw [Int.mul_add, Int.mul_left_comm]
/-- a station more that is free -/
theorem TD_step {S : List Nat} {E : List zE} (hE : ∀ e ∈ E, e.1 ∈ S ∧ e.2.1 ∈ S) {N : Nat} (hS : ∀ s ∈ S, s < N) {U : Nat → Bool} {d0 c : Nat} (h0 : U d0 = false) (hd : d0 ∈ S) (hc : c ∈ S) (hcU : U c = false) (hcd : c ≠ d0) :
    TD S E (lU (fun s => U s || s == c) d0) = sN (fun j => Lp E c j * TS S (fun q => q j - q d0) (zE0 E) (lU U d0) (zd c)) N := by
  obtain ⟨V, hV⟩ : ∃ V : Nat → Bool, V = fun s => U s || s == c := ⟨_, rfl⟩
  rw [← hV]
  have hVq : ∀ q, V q = (U q || q == c) := fun q => by rw [hV]
  have hU' : V d0 = false := by rw [hVq]; simp [h0, Ne.symm hcd]
  have hUc : V c = true := by rw [hVq]; simp
  have hne : lU V d0 c ≠ lU V d0 d0 := by
    rw [Ne, lU_eq hU']
    rw [hU', hUc]
    simp [hcd]
  have h := TS_link (zE0 E) (E0_in hE) c d0 (-1) (lU V d0) (fun _ => 0) hc hd hne
  rw [TS_aff, TS_0] at h
  have hz : zeq (jl c d0 (lU V d0)) (lU U d0) (jr c d0 (-1) (lU V d0) (fun _ => 0)) (zd c) := by
    intro s t
    have e1 := lU_eq hU' s d0
    have e2 := lU_eq hU' t d0
    have e3 := lU_eq h0 s t
    have e4 : lU V d0 c = c := by unfold lU; rw [if_pos hUc]
    have e5 : ∀ q, U q = true → q ≠ c := fun q hq hqc => by rw [hqc, hcU] at hq; cases hq
    unfold jl jr zd
    rw [e3, e4]
    have f1 : ∀ q, (lU V d0 q = lU V d0 d0) ↔ (U q = false ∧ q ≠ c) := by
      intro q
      rw [lU_eq hU' q d0]
      by_cases h1 : q = d0
      · subst h1; simp [h0, Ne.symm hcd]
      · rw [hVq, hU']; simp [h1]
    have f2 : ∀ q, ¬ (U q = false ∧ q ≠ c) → lU V d0 q = q := by
      intro q hq
      unfold lU
      rw [if_pos]
      rw [hVq]
      by_cases h1 : q = c
      · simp [h1]
      · have : U q = true := by
          cases hh : U q
          · exact absurd ⟨hh, h1⟩ hq
          · rfl
        simp [this]
    by_cases g1 : U s = false ∧ s ≠ c <;> by_cases g2 : U t = false ∧ t ≠ c
    · rw [if_pos ((f1 s).mpr g1), if_pos ((f1 t).mpr g2), if_pos ((f1 s).mpr g1), if_pos ((f1 t).mpr g2), if_neg g1.2, if_neg g2.2]
      simp [g1.1, g2.1]
    · rw [if_pos ((f1 s).mpr g1), if_neg (fun q => g2 ((f1 t).mp q)), if_pos ((f1 s).mpr g1), if_neg (fun q => g2 ((f1 t).mp q)), if_neg g1.2, f2 t g2]
      refine ⟨⟨fun q => ?_, fun q => ?_⟩, fun q => ?_⟩
      · exact Or.inr ⟨g1.1, by rw [← q]; exact hcU⟩
      · rcases q with q | q
        · subst q; exact absurd g1 g2
        · by_cases h1 : t = c
          · exact h1.symm
          · exact absurd ⟨q.2, h1⟩ g2
      · rw [if_pos q.symm]
        rfl
    · rw [if_neg (fun q => g1 ((f1 s).mp q)), if_pos ((f1 t).mpr g2), if_neg (fun q => g1 ((f1 s).mp q)), if_pos ((f1 t).mpr g2), if_neg g2.2, f2 s g1]
      refine ⟨⟨fun q => ?_, fun q => ?_⟩, fun q => ?_⟩
      · exact Or.inr ⟨by rw [q]; exact hcU, g2.1⟩
      · rcases q with q | q
        · subst q; exact absurd g2 g1
        · by_cases h1 : s = c
          · exact h1
          · exact absurd ⟨q.1, h1⟩ g1
      · rw [if_pos q]
        rfl
    · rw [if_neg (fun q => g1 ((f1 s).mp q)), if_neg (fun q => g2 ((f1 t).mp q)), if_neg (fun q => g1 ((f1 s).mp q)), if_neg (fun q => g2 ((f1 t).mp q)), f2 s g1, f2 t g2]
      refine ⟨⟨fun q => Or.inl q, fun q => ?_⟩, fun q => ?_⟩
      · rcases q with q | q
        · exact q
        · by_cases h1 : s = c <;> by_cases h2 : t = c
          · rw [h1, h2]
          · exact absurd ⟨q.2, h2⟩ g2
          · exact absurd ⟨q.1, h1⟩ g1
          · exact absurd ⟨q.1, h1⟩ g1
      · rw [q]
        omega
  have hchi : ∀ s, zchi (lU V d0) c s = zd c s := fun s => zchi_lU hU' hUc s
  rw [TS_zeq (fun r r2 h => VF_inv (E0_in hE) _ r r2 h) _ hz, TS_congr (fun q => VF_ext hchi _ q), VF_VG S _ _ _ _ _ d0, VG_Lp c _ _ N _ (fun e he => ⟨hS _ (E0_in hE e he).1, hS _ (E0_in hE e he).2⟩), Lb_E0, TD_E0, sN_congr (g := fun j => Lp E c j * TS S (fun q => q j - q d0) (zE0 E) (lU U d0) (zd c)) N (fun j _ => by rw [Lp_E0])] at h
  simp only [Int.sub_zero, Int.zero_mul, Int.mul_zero, Int.neg_mul, Int.one_mul] at h
  omega
/-- what is alike in each piece, and at both ends of each observation, is alike everywhere, if there is a tree -/
theorem TD_conn {α : Type} {S : List Nat} (E : List zE) (Y : Nat → α) (he : ∀ e ∈ E, Y e.1 = Y e.2.1) (lab : Nat → Nat) (ris : Nat → Int) (hl : ∀ s t, lab s = lab t → Y s = Y t) (h : TS S (fun _ => 1) E lab ris ≠ 0) : ∀ s ∈ S, ∀ t ∈ S, Y s = Y t := by
  induction E generalizing lab ris with
  | nil =>
    simp only [TS] at h
    intro s hs t ht
    by_cases c : zconn S lab
    · exact hl s t (c s hs t ht)
    · rw [if_neg c] at h
      exact absurd rfl h
  | cons e E ih =>
    have ih := ih (fun e he2 => he e (List.mem_cons_of_mem _ he2))
    have hee := he e List.mem_cons_self
    simp only [TS] at h
    by_cases c0 : TS S (fun _ => 1) E lab ris = 0
    · rw [c0] at h
      by_cases c : lab e.1 = lab e.2.1
      · rw [if_pos c] at h
        exact absurd rfl h
      · rw [if_neg c] at h
        refine ih (jl e.1 e.2.1 lab) (jr e.1 e.2.1 e.2.2.1 lab ris) (fun s t q => ?_) (fun q => h (by rw [q]; omega))
        unfold jl at q
        by_cases c1 : lab s = lab e.2.1 <;> by_cases c2 : lab t = lab e.2.1
        · exact (hl _ _ c1).trans (hl _ _ c2).symm
        · rw [if_pos c1, if_neg c2] at q
          exact (hl _ _ c1).trans (hee.symm.trans (hl _ _ q))
        · rw [if_neg c1, if_pos c2] at q
          exact (hl _ _ q).trans (hee.trans (hl _ _ c2).symm)
        · rw [if_neg c1, if_neg c2] at q
          exact hl _ _ q
    · exact ih lab ris hl c0
theorem TD_nonneg {S : List Nat} (E : List zE) (hw : ∀ e ∈ E, 0 < e.2.2.2) (lab : Nat → Nat) (ris : Nat → Int) : 0 ≤ TS S (fun _ => 1) E lab ris := by
  induction E generalizing lab ris with
  | nil =>
    simp only [TS]
    split <;> omega
  | cons e E ih =>
    have ih := ih (fun e he2 => hw e (List.mem_cons_of_mem _ he2))
    simp only [TS]
    have h1 := ih lab ris
    split
    · omega
    · have h2 := Int.mul_nonneg (Int.le_of_lt (hw e List.mem_cons_self)) (ih (jl e.1 e.2.1 lab) (jr e.1 e.2.1 e.2.2.1 lab ris))
      omega
theorem TD_pos {S : List Nat} (E : List zE) (hw : ∀ e ∈ E, 0 < e.2.2.2) (lab : Nat → Nat) (ris : Nat → Int)
    (hc : ∀ C : Nat → Prop, (∀ s t, lab s = lab t → (C s ↔ C t)) → (∀ e ∈ E, C e.1 ↔ C e.2.1) → ∀ s ∈ S, ∀ t ∈ S, (C s ↔ C t)) : 0 < TS S (fun _ => 1) E lab ris := by
  induction E generalizing lab ris with
  | nil =>
    have c : zconn S lab := fun s hs t ht => (hc (fun q => lab q = lab t) (fun s t q => by rw [q]) (fun e he => absurd he List.not_mem_nil) s hs t ht).mpr rfl
    simp only [TS]
    rw [if_pos c]
    omega
  | cons e E ih =>
    have hw2 : ∀ e ∈ E, 0 < e.2.2.2 := fun e he2 => hw e (List.mem_cons_of_mem _ he2)
    have ih := ih hw2
    simp only [TS]
    by_cases c : lab e.1 = lab e.2.1
    · rw [if_pos c]
      have := ih lab ris (fun C h1 h2 => hc C h1 (fun e' he' => by
        rcases List.mem_cons.mp he' with q | q
        · rw [q]; exact h1 _ _ c
        · exact h2 e' q))
      omega
    · rw [if_neg c]
      have h1 := TD_nonneg (S := S) E hw2 lab ris
      have h2 := ih (jl e.1 e.2.1 lab) (jr e.1 e.2.1 e.2.2.1 lab ris) (fun C h1 h2 => hc C (fun s t q => h1 s t (by unfold jl; rw [q])) (fun e' he' => by
        rcases List.mem_cons.mp he' with q | q
        · rw [q]
          refine h1 _ _ ?_
          unfold jl
          rw [if_neg c, if_pos rfl]
        · exact h2 e' q))
      have h3 := Int.mul_pos (hw e List.mem_cons_self) h2
      omega
theorem TD_mono {S : List Nat} {E : List zE} (hw : ∀ e ∈ E, 0 < e.2.2.2) {lab lab' : Nat → Nat} (hl : ∀ s t, lab' s = lab' t → lab s = lab t) (h : TD S E lab' ≠ 0) : 0 < TD S E lab :=
  TD_pos E hw lab _ (fun C h1 h2 s hs t ht => by
    have := TD_conn (α := Prop) E C (fun e he => propext (h2 e he)) lab' _ (fun s t q => propext (h1 s t (hl s t q))) h s hs t ht
    rw [this])
theorem VG_addχ (χ ψ : Nat → Int) (D : Int) (P : Nat → Int) (G : List zE) : VG (fun s => χ s + ψ s) D P G = VG χ D P G + VG ψ D P G := by
  induction G with
  | nil => rfl
  | cons e G ih => simp only [VG, ih]; grind
theorem VG_smulχ (k : Int) (χ : Nat → Int) (D : Int) (P : Nat → Int) (G : List zE) : VG (fun s => k * χ s) D P G = k * VG χ D P G := by
  induction G with
  | nil => simp only [VG]; omega
  | cons e G ih => simp only [VG, ih]; grind
theorem VG_sum (Y : Nat → Int) (D : Int) (P : Nat → Int) (G : List zE) : ∀ N, VG (fun s => sN (fun r => zd r s * Y r) N) D P G = sN (fun r => Y r * VG (zd r) D P G) N
  | 0 => by
    simp only [sN]
    have := VG_smulχ 0 (fun _ => 0) D P G
    simp only [Int.zero_mul] at this
    exact this
  | N + 1 => by
    simp only [sN]
    rw [VG_addχ (fun s => sN (fun r => zd r s * Y r) N) (fun s => zd N s * Y N), VG_sum Y D P G N]
    have : (fun s => zd N s * Y N) = fun s => Y N * zd N s := funext (fun s => Int.mul_comm _ _)
    rw [this, VG_smulχ]
theorem VG_ext {χ ψ : Nat → Int} {D : Int} {P : Nat → Int} (G : List zE) (h : ∀ e ∈ G, χ e.1 = ψ e.1 ∧ χ e.2.1 = ψ e.2.1) : VG χ D P G = VG ψ D P G := by
  induction G with
  | nil => rfl
  | cons e G ih =>
    simp only [VG]
    rw [ih (fun e he => h e (List.mem_cons_of_mem _ he)), (h e List.mem_cons_self).1, (h e List.mem_cons_self).2]
theorem VG_energy (Y : Nat → Int) (G : List zE) (hw : ∀ e ∈ G, 0 < e.2.2.2) : VG Y 0 Y G ≤ 0 ∧ (VG Y 0 Y G = 0 → ∀ e ∈ G, Y e.1 = Y e.2.1) := by
  induction G with
  | nil => exact ⟨Int.le_refl _, fun _ e he => absurd he List.not_mem_nil⟩
  | cons e G ih =>
    obtain ⟨i1, i2⟩ := ih (fun e he => hw e (List.mem_cons_of_mem _ he))
    have h0 := hw e List.mem_cons_self
    have e1 : VG Y 0 Y (e :: G) = - (e.2.2.2 * ((Y e.1 - Y e.2.1) * (Y e.1 - Y e.2.1))) + VG Y 0 Y G := by
      simp only [VG]
      grind
    have h1 : 0 ≤ (Y e.1 - Y e.2.1) * (Y e.1 - Y e.2.1) := by
      rcases Int.le_total 0 (Y e.1 - Y e.2.1) with q | q
      · exact Int.mul_nonneg q q
      · have := Int.mul_nonneg (show 0 ≤ -(Y e.1 - Y e.2.1) by omega) (show 0 ≤ -(Y e.1 - Y e.2.1) by omega)
        rw [Int.neg_mul_neg] at this
        exact this
    have h2 := Int.mul_nonneg (Int.le_of_lt h0) h1
    rw [e1]
    refine ⟨by omega, fun hz => ?_⟩
    have h3 : e.2.2.2 * ((Y e.1 - Y e.2.1) * (Y e.1 - Y e.2.1)) = 0 := by omega
    intro e' he'
    rcases List.mem_cons.mp he' with q | q
    · rw [q]
      rcases Int.mul_eq_zero.mp h3 with q1 | q1
      · omega
      · rcases Int.mul_eq_zero.mp q1 with q2 | q2 <;> omega
    · exact i2 (by omega) e' q
/-- the equations have one solution at most -/
theorem Lp_one {S : List Nat} {E : List zE} (hE : ∀ e ∈ E, e.1 ∈ S ∧ e.2.1 ∈ S) (hw : ∀ e ∈ E, 0 < e.2.2.2) {N : Nat} (hS : ∀ s ∈ S, s < N) {U : Nat → Bool} {d0 : Nat} (h0 : U d0 = false) (hd : d0 ∈ S) (hU : ∀ s, U s = true → s ∈ S) (hD : TD S E (lU U d0) ≠ 0)
    (Y : Nat → Int) (hY : ∀ s, U s = false → Y s = 0) (h : ∀ r, U r = true → sN (fun j => Lp E r j * Y j) N = 0) : ∀ s ∈ S, Y s = 0 := by
  have hb : ∀ e ∈ E, e.1 < N ∧ e.2.1 < N := fun e he => ⟨hS _ (hE e he).1, hS _ (hE e he).2⟩
  have h1 : ∀ r, U r = true → VG (zd r) 0 Y E = 0 := fun r hr => by
    rw [VG_Lp r 0 Y N E hb, h r hr]
    omega
  have h2 : VG Y 0 Y E = 0 := by
    rw [VG_ext (ψ := fun s => sN (fun r => zd r s * Y r) N) E (fun e he => ⟨by rw [sN_pick, if_pos (hb e he).1], by rw [sN_pick, if_pos (hb e he).2]⟩), VG_sum]
    refine sN_zero N (fun r _ => ?_)
    cases hr : U r
    · rw [hY r hr, Int.zero_mul]
    · rw [h1 r hr, Int.mul_zero]
  have h3 := (VG_energy Y E hw).2 h2
  intro s hs
  rw [TD_conn E Y h3 (lU U d0) _ (fun s t q => by
    rcases (lU_eq h0 s t).mp q with q | q
    · rw [q]
    · rw [hY s q.1, hY t q.2]) hD s hs d0 hd, hY d0 h0]
end ZD

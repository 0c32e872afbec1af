/-! THE CLASS'S NET (the rest), AND THE PATH -/
section ZNET2
def zup {α : Type} (g : Nat → α) (k : Nat) (v : α) : Nat → α := fun j => if j = k then v else g j
theorem zup_s {α : Type} (g : Nat → α) (k : Nat) (v : α) : zup g k v k = v := if_pos rfl
theorem zup_n {α : Type} (g : Nat → α) {k j : Nat} (v : α) (h : j ≠ k) : zup g k v j = g j := if_neg h
def addSt (A : zNt) : zNt := (nnn A + 1, nko A, nfr A, nto A, ndf A, nwt A, nwd A, ntl A, nth A)
def addOb (A : zNt) (f t : Nat) (d w : Int) : zNt := (nnn A, nko A + 1, zup (nfr A) (nko A) f, zup (nto A) (nko A) t, zup (ndf A) (nko A) d, zup (nwt A) (nko A) w, nwd A, ntl A, nth A)
def setWd (A : zNt) (o : Nat) (b : Bool) : zNt := (nnn A, nko A, nfr A, nto A, ndf A, nwt A, zup (nwd A) o b, ntl A, nth A)
def setTl (A : zNt) (t : Nat) (b : Bool) (h : Int) : zNt := (nnn A, nko A, nfr A, nto A, ndf A, nwt A, nwd A, zup (ntl A) t b, zup (nth A) t (if b = true then h else 0))
theorem addSt_ok {A : zNt} (hA : zok A) (h : nnn A < 6) : zok (addSt A) := by
  obtain ⟨a1, a2, a3, a4, a5, a6⟩ := hA
  refine ⟨h, a2, fun o ho => ?_, a4, fun t ht => a5 t (by have : nnn A + 1 ≤ t := ht; omega), a6⟩
  obtain ⟨b1, b2, b3⟩ := a3 o ho
  exact ⟨Nat.lt_succ_of_lt b1, Nat.lt_succ_of_lt b2, b3⟩
theorem addOb_ok {A : zNt} (hA : zok A) (h : nko A < 14) {f t : Nat} {d w : Int} (hf : f < nnn A) (ht : t < nnn A) (hne : f ≠ t) (hd : -9999 ≤ d ∧ d ≤ 9999) (hw : 1 ≤ w ∧ w ≤ 5) : zok (addOb A f t d w) := by
  obtain ⟨a1, a2, a3, a4, a5, a6⟩ := hA
  refine ⟨a1, h, fun o ho => ?_, a4, a5, fun o ho => a6 o (by have : nko A + 1 ≤ o := ho; omega)⟩
  have ho : o < nko A + 1 := ho
  show zup (nfr A) (nko A) f o < nnn A ∧ zup (nto A) (nko A) t o < nnn A ∧ zup (nfr A) (nko A) f o ≠ zup (nto A) (nko A) t o ∧ (-9999 ≤ zup (ndf A) (nko A) d o ∧ zup (ndf A) (nko A) d o ≤ 9999) ∧ 1 ≤ zup (nwt A) (nko A) w o ∧ zup (nwt A) (nko A) w o ≤ 5
  by_cases e : o = nko A
  · subst e
    rw [zup_s, zup_s, zup_s, zup_s]
    exact ⟨hf, ht, hne, hd, hw⟩
  · rw [zup_n _ _ e, zup_n _ _ e, zup_n _ _ e, zup_n _ _ e]
    exact a3 o (by omega)
theorem setWd_ok {A : zNt} (hA : zok A) {o : Nat} (h : o < nko A) (b : Bool) : zok (setWd A o b) := by
  obtain ⟨a1, a2, a3, a4, a5, a6⟩ := hA
  refine ⟨a1, a2, a3, a4, a5, fun q hq => ?_⟩
  have hq : nko A ≤ q := hq
  show zup (nwd A) o b q = false
  rw [zup_n _ _ (by omega)]
  exact a6 q hq
theorem setTl_ok {A : zNt} (hA : zok A) {t : Nat} (h : t < nnn A) (b : Bool) {v : Int} (hv : b = true → -9999 ≤ v ∧ v ≤ 9999) : zok (setTl A t b v) := by
  obtain ⟨a1, a2, a3, a4, a5, a6⟩ := hA
  refine ⟨a1, a2, a3, fun q hq => ?_, fun q hq => ?_, a6⟩
  · show -9999 ≤ zup (nth A) t (if b = true then v else 0) q ∧ zup (nth A) t (if b = true then v else 0) q ≤ 9999
    by_cases e : q = t
    · subst e
      rw [zup_s]
      by_cases c : b = true
      · rw [if_pos c]; exact hv c
      · rw [if_neg c]; omega
    · rw [zup_n _ _ e]
      exact a4 q hq
  · have hq : nnn A ≤ q := hq
    show zup (ntl A) t b q = false ∧ zup (nth A) t (if b = true then v else 0) q = 0
    rw [zup_n _ _ (by omega), zup_n _ _ (by omega)]
    exact a5 q hq
/-- an int names one of the first n, or none of them -/
theorem zix (x : Int32) {n : Nat} (hn : n < 2 ^ 31) : (∃ j, j < n ∧ x = nI j) ∨ ((∀ j, j < n → x ≠ nI j) ∧ (x < 0 ∨ (¬ x < 0 ∧ nI n ≤ x))) := by
  by_cases h0 : x < 0
  · refine Or.inr ⟨fun j hj e => ?_, Or.inl h0⟩
    rw [e] at h0
    exact nI_pos (by omega) h0
  · obtain ⟨j, hj, e⟩ := nI_of h0
    by_cases c : j < n
    · exact Or.inl ⟨j, c, e⟩
    · refine Or.inr ⟨fun i hi e2 => ?_, Or.inr ⟨h0, by rw [e]; exact nI_le (by omega) hj⟩⟩
      rw [e] at e2
      have := (nI_eq hj (by omega)).mp e2
      omega
theorem W_hasStation {A : zNt} (hA : zok A) {s : zS} (hR : RXn A s) (x : Int32) (Q : Int32 → Prop) (h1 : ∀ j, j < nnn A → x = nI j → Q 1) (h0 : (∀ j, j < nnn A → x ≠ nI j) → Q 0) : W_X1_hasStation s x Q := by
  have hn := hA.1
  rcases zix x (n := nnn A) (by omega) with ⟨j, hj, e⟩ | ⟨h, h2⟩
  · refine br_f (by rw [e]; exact nI_pos (by omega)) (br_f (by rw [e]; exact c_nle hR.1 hj (by omega)) (h1 j hj e))
  · rcases h2 with h2 | h2
    · exact br_t h2 (h0 h)
    · exact br_f h2.1 (br_t (by rw [hR.1]; exact h2.2) (h0 h))
theorem W_hasObservation {A : zNt} (hA : zok A) {s : zS} (hR : RXn A s) (x : Int32) (Q : Int32 → Prop) (h1 : ∀ j, j < nko A → x = nI j → Q 1) (h0 : (∀ j, j < nko A → x ≠ nI j) → Q 0) : W_X1_hasObservation s x Q := by
  have hn := hA.2.1
  rcases zix x (n := nko A) (by omega) with ⟨j, hj, e⟩ | ⟨h, h2⟩
  · refine br_f (by rw [e]; exact nI_pos (by omega)) (br_f (by rw [e]; exact c_nle hR.2.1 hj (by omega)) (h1 j hj e))
  · rcases h2 with h2 | h2
    · exact br_t h2 (h0 h)
    · exact br_f h2.1 (br_t (by rw [hR.2.1]; exact h2.2) (h0 h))
theorem W_areIn {A : zNt} (hA : zok A) {s : zS} (hR : RX A s) {a b : Nat} (ha : a < nnn A) (hb : b < nnn A) (Q : Int32 → Prop) (h : Q (bI (cI A a b))) : W_X1_areInOnePart s (nI a) (nI b) Q := by
  have hn := hA.1
  have l1 := (lw_spec A a).1
  have l2 := (lw_spec A b).1
  refine ⟨vp_in_nI (by omega) (by omega), vp_in_nI (by omega) (by omega), ?_⟩
  rw [ix_nI (by omega), ix_nI (by omega), hR.2 a ha, hR.2 b hb]
  by_cases c : cI A a b = true
  · rw [c] at h
    exact nt_f (by rw [lw_eq.mpr c]) h
  · have c2 : cI A a b = false := by cases hh : cI A a b; rfl; exact absurd hh c
    rw [c2] at h
    exact nt_t (fun q => c (lw_eq.mp ((nI_eq (by omega) (by omega)).mp q))) h
theorem W_isInPartOf {A : zNt} (hA : zok A) {s : zS} (hR : RX A s) {o d : Nat} (ho : o < nko A) (hd : d < nnn A) (Q : Int32 → Prop) (h : Q (bI (!nwd A o && cI A (nfr A o) d))) : W_X1_isInPartOf s (nI o) (nI d) Q := by
  have hk := hA.2.1
  refine ⟨vp_in_nI (by omega) (by omega), ?_⟩
  rw [ix_nI (by omega), hR.1.2.2.2.2 o (by omega), (hR.1.2.2.2.1 o ho).1]
  cases hw : nwd A o
  · rw [hw] at h
    refine nt_f rfl ⟨vp_in_nI (by omega) (by omega), W_areIn hA hR (hA.2.2.1 o ho).1 hd _ ?_⟩
    cases hc : cI A (nfr A o) d
    · rw [hc] at h
      exact br_t rfl h
    · rw [hc] at h
      exact br_f (by decide) h
  · rw [hw] at h
    exact nt_t (by decide) h
theorem W_datumOf {A : zNt} (hA : zok A) {s : zS} (hR : RX A s) {t : Nat} (ht : t < nnn A) (Q : Int32 → Prop) (h : Q (nI (dat A t))) : W_X1_datumOf s (nI t) Q := by
  have hn := hA.1
  refine nm_e ?_
  obtain ⟨I, eI⟩ : ∃ I : Nat → Unit → Prop, I = fun i _ => ∀ j, j < i → (ntl A j && cI A j t) = false := ⟨_, rfl⟩
  obtain ⟨m, hm⟩ := pk_loop (fun m i (_ : Unit) => W_X1_datumOf_L2 s (nI t) Q (I (nnn A) ()) m (nI i)) I (nnn A) 0 () (Nat.zero_le _)
    (by rw [eI]; exact fun j hj => by omega)
    (fun m s' hI => br_t (c_le hR.1.1 (Nat.le_refl _) (by omega)) hI)
    (fun m i s' hi1 hI hk => by
      rw [eI] at hI
      refine br_f (c_nle hR.1.1 hi1 (by omega)) ⟨vp_in_nI (by omega) (by omega), ?_⟩
      rw [ix_nI (by omega), (hR.1.2.2.1 i (by omega)).1]
      have hgo : (ntl A i && cI A i t) = false → I (i + 1) () := fun q => by
        rw [eI]
        intro j hj
        by_cases e : j = i
        · rw [e]; exact q
        · exact hI j (by omega)
      cases hl : ntl A i
      · exact br_t rfl (nm_r (nI_1 i) (hk () (hgo (by rw [hl]; rfl))))
      · refine br_f (by decide) (W_areIn hA hR hi1 ht _ ?_)
        cases hc : cI A i t
        · exact br_t rfl (nm_r (nI_1 i) (hk () (hgo (by rw [hl, hc]; rfl))))
        · have : dat A t = i := by
            unfold dat
            rw [zfst_at (p := fun s => ntl A s && cI A s t) (i := i) (by simp [hl, hc]) hI (nnn A) hi1, if_pos hi1]
          rw [this] at h
          exact br_f (by decide) h)
  refine ⟨_, m, fun hI => ?_, hm⟩
  rw [eI] at hI
  refine ⟨vp_in_nI (by omega) (by omega), ?_⟩
  rw [ix_nI (by omega), hR.2 t ht]
  have : dat A t = lw A t := by
    unfold dat
    rw [zfst_no (p := fun s => ntl A s && cI A s t) (nnn A) hI, if_neg (by omega)]
  rw [this] at h
  exact h
/-- how many below n -/
def zcn (p : Nat → Bool) : Nat → Nat
  | 0 => 0
  | n + 1 => if p n = true then zcn p n + 1 else zcn p n
theorem zcn_le (p : Nat → Bool) : ∀ n, zcn p n ≤ n
  | 0 => Nat.le_refl _
  | n + 1 => by
    have := zcn_le p n
    simp only [zcn]
    split <;> omega
noncomputable def nprt (A : zNt) : Nat := zcn (fun t => lw A t == t) (nnn A)
theorem W_countParts {A : zNt} (hA : zok A) {s : zS} (hR : RX A s) (Q : Int32 → Prop) (h : Q (nI (nprt A))) : W_X1_countParts s Q := by
  have hn := hA.1
  refine nm_e (nm_e ?_)
  obtain ⟨I, eI⟩ : ∃ I : Nat → Nat → Prop, I = fun i c => c = zcn (fun t => lw A t == t) i := ⟨_, rfl⟩
  obtain ⟨m, hm⟩ := pk_loop (fun m i (c : Nat) => W_X1_countParts_L4 s Q (fun v => v = nI (nprt A)) m (nI c) (nI i)) I (nnn A) 0 0 (Nat.zero_le _)
    (by rw [eI]; rfl)
    (fun m c hI => br_t (c_le hR.1.1 (Nat.le_refl _) (by omega)) (by rw [eI] at hI; rw [hI]; rfl))
    (fun m i c hi1 hI hk => by
      rw [eI] at hI
      have l1 := (lw_spec A i).1
      refine br_f (c_nle hR.1.1 hi1 (by omega)) ⟨vp_in_nI (by omega) (by omega), ?_⟩
      rw [ix_nI (by omega), hR.2 i hi1]
      refine nt_c (fun q => nm_r (nI_1 i) (hk c ?_)) (fun q => nm_r (nI_1 c) (nm_r (nI_1 i) (hk (c + 1) ?_)))
      · rw [eI]
        show c = zcn _ (i + 1)
        simp only [zcn]
        rw [if_neg (fun r => q (by rw [beq_iff_eq.mp r])), hI]
      · rw [eI]
        show c + 1 = zcn _ (i + 1)
        simp only [zcn]
        rw [if_pos (beq_iff_eq.mpr ((nI_eq (by omega) (by omega)).mp q)), hI])
  exact ⟨_, m, fun v hv => by rw [hv]; exact h, hm⟩
theorem W_countStationsWith {A : zNt} (hA : zok A) {s : zS} (hR : RX A s) {t : Nat} (ht : t < nnn A) (Q : Int32 → Prop) (h : Q (nI (zcn (fun u => cI A u t) (nnn A)))) : W_X1_countStationsWith s (nI t) Q := by
  have hn := hA.1
  refine nm_e (nm_e ?_)
  obtain ⟨I, eI⟩ : ∃ I : Nat → Nat → Prop, I = fun i c => c = zcn (fun u => cI A u t) i := ⟨_, rfl⟩
  obtain ⟨m, hm⟩ := pk_loop (fun m i (c : Nat) => W_X1_countStationsWith_L4 s (nI t) Q (fun v => v = nI (zcn (fun u => cI A u t) (nnn A))) m (nI c) (nI i)) I (nnn A) 0 0 (Nat.zero_le _)
    (by rw [eI]; rfl)
    (fun m c hI => br_t (c_le hR.1.1 (Nat.le_refl _) (by omega)) (by rw [eI] at hI; rw [hI]))
    (fun m i c hi1 hI hk => by
      rw [eI] at hI
      refine br_f (c_nle hR.1.1 hi1 (by omega)) (W_areIn hA hR hi1 ht _ ?_)
      cases hc : cI A i t
      · refine br_t rfl (nm_r (nI_1 i) (hk c ?_))
        rw [eI]
        show c = zcn _ (i + 1)
        simp only [zcn]
        rw [if_neg (by rw [hc]; decide), hI]
      · refine br_f (by decide) (nm_r (nI_1 c) (nm_r (nI_1 i) (hk (c + 1) ?_)))
        rw [eI]
        show c + 1 = zcn _ (i + 1)
        simp only [zcn]
        rw [if_pos hc, hI])
  exact ⟨_, m, fun v hv => by rw [hv]; exact h, hm⟩
/-- does the observation join these two -/
def njo (A : zNt) (a b o : Nat) : Bool := !nwd A o && ((nfr A o == a && nto A o == b) || (nfr A o == b && nto A o == a))
def nbt (A : zNt) (a b : Nat) : Nat := zfst (njo A a b) (nko A)
theorem njo_iff {A : zNt} {a b o : Nat} : njo A a b o = true ↔ nwd A o = false ∧ ((nfr A o = a ∧ nto A o = b) ∨ (nfr A o = b ∧ nto A o = a)) := by simp [njo]
theorem W_lowestBetween {A : zNt} (hA : zok A) {s : zS} (hR : RXn A s) {a b : Nat} (ha : a < 2 ^ 31) (hb : b < 2 ^ 31) (Q : Int32 → Prop) (h : nbt A a b < nko A → Q (nI (nbt A a b))) (h0 : nbt A a b = nko A → Q (-1)) : W_X1_lowestBetween s (nI a) (nI b) Q := by
  have hk14 := hA.2.1
  have hn := hA.1
  refine nm_e ?_
  obtain ⟨I, eI⟩ : ∃ I : Nat → Unit → Prop, I = fun i _ => ∀ j, j < i → njo A a b j = false := ⟨_, rfl⟩
  obtain ⟨m, hm⟩ := pk_loop (fun m i (_ : Unit) => W_X1_lowestBetween_L2 s (nI a) (nI b) Q (I (nko A) ()) m (nI i)) I (nko A) 0 () (Nat.zero_le _)
    (by rw [eI]; exact fun j hj => by omega)
    (fun m s' hI => br_t (c_le hR.2.1 (Nat.le_refl _) (by omega)) hI)
    (fun m i s' hi1 hI hk => by
      rw [eI] at hI
      obtain ⟨e3, e4, -⟩ := hR.2.2.2.1 i hi1
      obtain ⟨f1, f2, -⟩ := hA.2.2.1 i hi1
      have hgo : njo A a b i = false → I (i + 1) () := fun q => by
        rw [eI]
        intro j hj
        by_cases e : j = i
        · rw [e]; exact q
        · exact hI j (by omega)
      have hat : njo A a b i = true → Q (nI i) := fun q => by
        have e : nbt A a b = i := zfst_at q hI _ hi1
        rw [← e]
        exact h (by omega)
      have q1 : nI (nfr A i) = nI a ↔ nfr A i = a := nI_eq (by omega) ha
      have q2 : nI (nto A i) = nI b ↔ nto A i = b := nI_eq (by omega) hb
      have q3 : nI (nfr A i) = nI b ↔ nfr A i = b := nI_eq (by omega) hb
      have q4 : nI (nto A i) = nI a ↔ nto A i = a := nI_eq (by omega) ha
      refine br_f (c_nle hR.2.1 hi1 (by omega)) ⟨vp_in_nI (by omega) (by omega), ?_⟩
      rw [ix_nI (by omega), e3, e4, hR.2.2.2.2 i (by omega)]
      have hi14 : vp_in (nI i) 14 := vp_in_nI (by omega) (by omega)
      refine ⟨fun v => v = bI (nfr A i == a && nto A i == b), fun v hv => nm_r hv ⟨hi14, fun v => v = bI (nfr A i == b && nto A i == a), fun v2 hv2 => nm_r hv2 ⟨hi14, ?_⟩, ?_⟩, ?_⟩
      · refine nt_c (fun c => nm_r (nI_1 i) (hk () (hgo ?_))) (fun c => ?_)
        · cases hq : njo A a b i
          · rfl
          · exact absurd (bI_0.mpr (njo_iff.mp hq).1) c
        · refine nt_c (fun c1 => hat ?_) (fun c1 => br_c (fun c2 => nm_r (nI_1 i) (hk () (hgo ?_))) (fun c2 => hat ?_))
          · have := bI_n0.mp c1
            simp only [Bool.and_eq_true, beq_iff_eq] at this
            exact njo_iff.mpr ⟨bI_0.mp c, Or.inl this⟩
          · have d1 := bI_0.mp c1
            have d2 := bI_0.mp c2
            simp [njo, d1, d2]
          · have := bI_n0.mp c2
            simp only [Bool.and_eq_true, beq_iff_eq] at this
            exact njo_iff.mpr ⟨bI_0.mp c, Or.inr this⟩
      · refine nt_c (fun c1 => ?_) (fun c1 => ⟨hi14, nt_c (fun c2 => ?_) (fun c2 => ?_)⟩)
        · have : (nfr A i == b) = false := by simp; exact fun r => c1 (q3.mpr r)
          rw [this]; rfl
        · have : (nto A i == a) = false := by simp; exact fun r => c2 (q4.mpr r)
          rw [this, Bool.and_false]; rfl
        · rw [q3.mp c1, q4.mp c2]; simp [bI]
      · refine nt_c (fun c1 => ?_) (fun c1 => ⟨hi14, nt_c (fun c2 => ?_) (fun c2 => ?_)⟩)
        · have : (nfr A i == a) = false := by simp; exact fun r => c1 (q1.mpr r)
          rw [this]; rfl
        · have : (nto A i == b) = false := by simp; exact fun r => c2 (q2.mpr r)
          rw [this, Bool.and_false]; rfl
        · rw [q1.mp c1, q2.mp c2]; simp [bI])
  refine ⟨_, m, fun hI => ?_, hm⟩
  rw [eI] at hI
  exact h0 (zfst_no _ hI)
theorem W_differenceFrom {A : zNt} (hA : zok A) {s : zS} (hR : RXn A s) {t o : Nat} (ht : t < 2 ^ 31) (ho : o < nko A) (Q : Int32 → Prop) (h : Q (iI (if nfr A o = t then ndf A o else - ndf A o))) : W_X1_differenceFrom s (nI t) (nI o) Q := by
  have hk14 := hA.2.1
  have hn := hA.1
  obtain ⟨e3, e4, e5, e6⟩ := hR.2.2.2.1 o ho
  obtain ⟨f1, f2, -⟩ := hA.2.2.1 o ho
  refine ⟨vp_in_nI (by omega) (by omega), ?_⟩
  rw [ix_nI (by omega), e3, e5]
  refine nt_c (fun c => ⟨vp_in_nI (by omega) (by omega), ?_⟩) (fun c => ⟨vp_in_nI (by omega) (by omega), ?_⟩)
  · rw [if_neg (fun q => c (by rw [q]))] at h
    rw [iI_neg]
    exact h
  · rw [if_pos ((nI_eq (by omega) ht).mp c)] at h
    exact h
theorem W_addStation {A : zNt} (hA : zok A) {s : zS} (hR : RX A s) (h6 : nnn A < 6) (Q : Int32 → zS → Prop) (h : ∀ s', zSm [0] [] [2] [] s s' → RX (addSt A) s' → Q (nI (nnn A)) s') : W_X1_addStation s Q := by
  refine nm_r hR.1.1 (nm_r (by rw [nI_1]) ?_)
  refine W_markParts (addSt_ok hA h6) (A := addSt A) ?_ _ (fun s' hS hR' => h s' (((zSm.rf s).tI (by simp) _).tr (hS.mono (by simp) (by simp) (by simp) (by simp))) hR')
  obtain ⟨⟨r0, r1, r2, r3, r4⟩, -⟩ := hR
  exact ⟨by rw [gI_sI, if_pos rfl]; rfl, r1, r2, r3, r4⟩
theorem W_tellHeight {A : zNt} (hA : zok A) {s : zS} (hR : RX A s) {t : Nat} (ht : t < nnn A) (v : Int) (b : Bool) {x : Int32} (hx : bI b = x) (Q : Int32 → zS → Prop) (h : ∀ s', zSm [] [] [0, 1] [] s s' → RX (setTl A t b v) s' → Q (bI (ntl A t)) s') : W_X1_tellHeight s (nI t) (iI v) x Q := by
  subst hx
  have hn := hA.1
  obtain ⟨⟨r0, r1, r2, r3, r4⟩, rl⟩ := hR
  have hin : vp_in (nI t) 6 := vp_in_nI (by omega) (by omega)
  refine ⟨hin, nm_r (by rw [ix_nI (by omega), (r2 t (by omega)).1]) ⟨hin, nm_e ?_⟩⟩
  rw [ix_nI (by omega), vn_bI]
  have key : ∀ u : Int32, u = iI (if b = true then v else 0) → RX (setTl A t b v) (sF (sF s 0 t (bI b)) 1 t u) := fun u hu => by
    refine ⟨⟨r0, r1, fun q hq => ?_, r3, r4⟩, rl⟩
    obtain ⟨g1, g2⟩ := r2 q hq
    show gF (sF (sF s 0 t (bI b)) 1 t u) 0 q = bI (zup (ntl A) t b q) ∧ gF (sF (sF s 0 t (bI b)) 1 t u) 1 q = iI (zup (nth A) t (if b = true then v else 0) q)
    rw [gF_sFn _ (by decide), gF_sFs, gF_sFs, gF_sFn _ (by decide)]
    by_cases e : q = t
    · subst e
      rw [if_pos rfl, if_pos rfl, zup_s, zup_s, hu]
      exact ⟨rfl, rfl⟩
    · rw [if_neg e, if_neg e, zup_n _ _ e, zup_n _ _ e]
      exact ⟨g1, g2⟩
  cases hb : b
  · rw [hb] at h key
    exact br_t rfl ⟨hin, nm_e ⟨bI_nar _, h _ (((zSm.rf s).tF (by simp) _ _).tF (by simp) _ _) (key 0 rfl)⟩⟩
  · rw [hb] at h key
    exact br_f (by decide) ⟨hin, nm_e ⟨bI_nar _, h _ (((zSm.rf s).tF (by simp) _ _).tF (by simp) _ _) (key _ rfl)⟩⟩
theorem W_addObservation {A : zNt} (hA : zok A) {s : zS} (hR : RX A s) (h14 : nko A < 14) {f t : Nat} {d w : Int} (hf : f < nnn A) (ht : t < nnn A) (hne : f ≠ t) (hd : -9999 ≤ d ∧ d ≤ 9999) (hw : 1 ≤ w ∧ w ≤ 5) (Q : Int32 → zS → Prop)
    (h : ∀ s', zSm [1] [] [2, 3, 4, 5, 6] [] s s' → RX (addOb A f t d w) s' → Q (nI (nko A)) s') : W_X1_addObservation s (nI f) (nI t) (iI d) (iI w) Q := by
  obtain ⟨⟨r0, r1, r2, r3, r4⟩, rl⟩ := hR
  have hin : vp_in (nI (nko A)) 14 := vp_in_nI (by omega) (by omega)
  refine nm_r r1 ⟨hin, nm_e ⟨hin, nm_e ⟨hin, nm_e ⟨hin, nm_e (nm_r (by rw [nI_1]) ?_)⟩⟩⟩⟩
  rw [ix_nI (by omega)]
  refine W_markParts (addOb_ok hA h14 hf ht hne hd hw) ?_ _ (fun s' hS hR' => h s' (((((((zSm.rf s).tF (by simp) _ _).tF (by simp) _ _).tF (by simp) _ _).tF (by simp) _ _).tI (by simp) _).tr (hS.mono (by simp) (by simp) (by simp) (by simp))) hR')
  refine ⟨r0, by rw [gI_sI, if_pos rfl]; rfl, r2, fun o ho => ?_, r4⟩
  have ho : o < nko A + 1 := ho
  simp only [gF_sI, gF_sF, upd, reduceIte, Nat.reduceEqDiff]
  show _ = nI (zup (nfr A) (nko A) f o) ∧ _ = nI (zup (nto A) (nko A) t o) ∧ _ = iI (zup (ndf A) (nko A) d o) ∧ _ = iI (zup (nwt A) (nko A) w o)
  by_cases e : o = nko A
  · subst e
    rw [if_pos rfl, if_pos rfl, if_pos rfl, if_pos rfl, zup_s, zup_s, zup_s, zup_s]
    exact ⟨rfl, rfl, rfl, rfl⟩
  · rw [if_neg e, if_neg e, if_neg e, if_neg e, zup_n _ _ e, zup_n _ _ e, zup_n _ _ e, zup_n _ _ e]
    exact r3 o (by omega)
theorem W_setWithdrawn {A : zNt} (hA : zok A) {s : zS} (hR : RX A s) {o : Nat} (ho : o < nko A) (b : Bool) {x : Int32} (hx : bI b = x) (Q : Int32 → zS → Prop) (h : ∀ s', zSm [] [] [2, 7] [] s s' → RX (setWd A o b) s' → Q (bI (nwd A o)) s') : W_X1_setWithdrawn s (nI o) x Q := by
  subst hx
  have hk := hA.2.1
  obtain ⟨⟨r0, r1, r2, r3, r4⟩, rl⟩ := hR
  have hin : vp_in (nI o) 14 := vp_in_nI (by omega) (by omega)
  refine ⟨hin, nm_r (by rw [ix_nI (by omega), r4 o (by omega)]) ⟨hin, nm_e ?_⟩⟩
  rw [ix_nI (by omega), vn_bI]
  refine W_markParts (setWd_ok hA ho b) ?_ _ (fun s' hS hR' => ⟨bI_nar _, h s' (((zSm.rf s).tF (by simp) _ _).tr (hS.mono (by simp) (by simp) (by simp) (by simp))) hR'⟩)
  refine ⟨r0, r1, r2, r3, fun q hq => ?_⟩
  rw [gF_sFs]
  show _ = bI (zup (nwd A) o b q)
  by_cases e : q = o
  · rw [if_pos e, e, zup_s]
  · rw [if_neg e, zup_n _ _ e]
    exact r4 q hq
end ZNET2

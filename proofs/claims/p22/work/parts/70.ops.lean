/-! WHAT EACH CALL ANSWERS AND DOES; the class does so -/
section ZOPS
abbrev zPa : Type := Nat × Nat × Nat × Int32
def pok (A : zNt) (P : zPa) : Prop := P.1 ≤ 10 ∧ (0 < P.1 → P.2.1 < nnn A ∧ P.2.2.1 < nnn A) ∧ (P.1 = 0 → P.2.2.2 = 0)
def RXP (P : zPa) (s : zS) : Prop := gI s 8 = nI P.1 ∧ (0 < P.1 → gI s 9 = nI P.2.1 ∧ gI s 10 = nI P.2.2.1) ∧ gI s 11 = P.2.2.2
def ST (A : zNt) (P : zPa) (s : zS) : Prop := zok A ∧ pok A P ∧ RX A s ∧ RXP P s
theorem RXP.sm {P : zPa} {li lj lf ll : List Nat} {s s' : zS} (h : RXP P s) (m : zSm li lj lf ll s s') (h1 : 8 ∉ li ∧ 9 ∉ li ∧ 10 ∉ li ∧ 11 ∉ li) : RXP P s' := by
  obtain ⟨a, b, c⟩ := h
  refine ⟨by rw [m.1 8 h1.1]; exact a, ?_, by rw [m.1 11 h1.2.2.2]; exact c⟩
  rw [m.1 9 h1.2.1, m.1 10 h1.2.2.1]
  exact b
abbrev zOp : Type := Nat × Int64 × zNt × zPa
def okX (o : zOp) (r : Int64) (s : zS) : Prop := o.1 = 0 ∧ r = o.2.1 ∧ ST o.2.2.1 o.2.2.2 s
def exX (o : zOp) (ns : List String) (E : String) (s : zS) : Prop := ∃ k : Nat, o.1 = k + 1 ∧ ns[k]? = some E ∧ ST o.2.2.1 o.2.2.2 s
def zopt (x : Int32) (n : Nat) : Option Nat := if 0 ≤ x.toInt ∧ x.toInt < n then some x.toInt.toNat else none
theorem zopt_s {j n : Nat} (h : j < n) (hn : n < 2 ^ 31) : zopt (nI j) n = some j := by
  unfold zopt
  rw [nI_toInt (by omega), if_pos ⟨by omega, by omega⟩]
  rfl
theorem zopt_n {x : Int32} {n : Nat} (hn : n < 2 ^ 31) (h : ∀ j, j < n → x ≠ nI j) : zopt x n = none := by
  unfold zopt
  rw [if_neg]
  intro q
  refine h x.toInt.toNat (by omega) ?_
  rw [← Int32.toInt_inj, nI_toInt (by omega)]
  omega
def oStation (A : zNt) (P : zPa) : zOp := if nnn A < 6 then (0, lI (nnn A), addSt A, P) else (1, 0, A, P)
def zrng (x : Int32) : Bool := decide (-9999 ≤ x.toInt ∧ x.toInt ≤ 9999)
def oDatum (A : zNt) (P : zPa) (x y : Int32) (b : Bool) : zOp := match zopt x (nnn A) with
  | none => (1, 0, A, P)
  | some j => if b = true ∧ zrng y = false then (2, 0, A, P) else (0, if ntl A j = true then 1 else 0, setTl A j b y.toInt, P)
def oObserve (A : zNt) (P : zPa) (x y d w : Int32) : zOp := match zopt x (nnn A), zopt y (nnn A) with
  | some i, some j => if i = j ∨ zrng d = false ∨ ¬ (1 ≤ w.toInt ∧ w.toInt ≤ 5) then (2, 0, A, P) else if nko A < 14 then (0, lI (nko A), addOb A i j d.toInt w.toInt, P) else (3, 0, A, P)
  | _, _ => (1, 0, A, P)
def oWithdraw (A : zNt) (P : zPa) (x : Int32) (b : Bool) : zOp := match zopt x (nko A) with
  | none => (1, 0, A, P)
  | some o => (0, if nwd A o = true then 1 else 0, setWd A o b, P)
noncomputable def aCl (bound : Int) : Nat → zNt → Nat × zNt
  | 0, A => (0, A)
  | f + 1, A => if (aWst A (nko A)).1 = -1 ∨ aScr A (aWst A (nko A)).1.toNat ≤ bound then (0, A) else ((aCl bound f (setWd A (aWst A (nko A)).1.toNat true)).1 + 1, (aCl bound f (setWd A (aWst A (nko A)).1.toNat true)).2)
noncomputable def oClean (A : zNt) (P : zPa) (b : Int32) : zOp := if 0 ≤ b.toInt ∧ b.toInt ≤ 1000000000 then (0, lI (aCl b.toInt 14 A).1, (aCl b.toInt 14 A).2, P) else (1, 0, A, P)
def oGo (A : zNt) (P : zPa) (x : Int32) : zOp := match zopt x (nnn A) with
  | none => (1, 0, A, P)
  | some j => if P.1 = 10 then (2, 0, A, P) else if P.1 = 0 then (0, 1, A, (1, j, j, P.2.2.2)) else if nbt A P.2.2.1 j = nko A then (2, 0, A, P) else
      (0, lI (P.1 + 1 : Nat), A, (P.1 + 1, P.2.1, j, P.2.2.2 + iI (if nfr A (nbt A P.2.2.1 j) = P.2.2.1 then ndf A (nbt A P.2.2.1 j) else - ndf A (nbt A P.2.2.1 j))))
def oEnd (A : zNt) (P : zPa) : zOp := (0, lI P.1, A, (0, 0, 0, 0))
def oSum (A : zNt) (P : zPa) : zOp := (0, P.2.2.2.toInt64, A, P)
def oClosed (A : zNt) (P : zPa) : zOp := (0, if 0 < P.1 ∧ P.2.1 = P.2.2.1 ∧ P.2.2.2 = 0 then 1 else 0, A, P)
def oSt (A : zNt) (P : zPa) (f : Nat → Int) (x : Int32) : zOp := match zopt x (nnn A) with
  | none => (1, 0, A, P)
  | some j => (0, lI (f j), A, P)
def oOb (A : zNt) (P : zPa) (f : Nat → Int) (x : Int32) : zOp := match zopt x (nko A) with
  | none => (1, 0, A, P)
  | some o => if nwd A o = true then (2, 0, A, P) else (0, lI (f o), A, P)
noncomputable def oWorst (A : zNt) (P : zPa) : zOp := (0, lI (aWst A (nko A)).1, A, P)
noncomputable def oParts (A : zNt) (P : zPa) : zOp := (0, lI (nprt A), A, P)
theorem ST_scr {A : zNt} {P : zPa} {s s' : zS} (h : ST A P s) (m : zScr s s') : ST A P s' :=
  ⟨h.1, h.2.1, h.2.2.1.sm m ⟨by simp, by simp⟩ ⟨by simp, by simp, by simp, by simp, by simp, by simp, by simp⟩ (by simp), h.2.2.2.sm m ⟨by simp, by simp, by simp, by simp⟩⟩
theorem ST_scw {A : zNt} {P : zPa} {s s' : zS} (h : ST A P s) (m : zScw s s') : ST A P s' :=
  ⟨h.1, h.2.1, h.2.2.1.sm m ⟨by simp, by simp⟩ ⟨by simp, by simp, by simp, by simp, by simp, by simp, by simp⟩ (by simp), h.2.2.2.sm m ⟨by simp, by simp, by simp, by simp⟩⟩
theorem nI_l64 {n : Nat} (h : n < 2 ^ 31) : (nI n).toInt64 = lI n := by rw [nI_iI, iI_l ⟨by omega, by omega⟩]
theorem bI_l (b : Bool) : (if bI b = 0 then (0 : Int64) else 1) = if b = true then 1 else 0 := by cases b <;> rfl
theorem W_needSt {A : zNt} {P : zPa} {s : zS} (h : ST A P s) (x : Int32) (Q : zS → Prop) (PX : String → zS → Prop) (h1 : ∀ j, j < nnn A → x = nI j → zopt x (nnn A) = some j → Q s) (h0 : zopt x (nnn A) = none → PX "java/lang/IndexOutOfBoundsException" s) : W_X4_needStation s x Q PX := by
  have hn := h.1.1
  exact W_hasStation h.1 h.2.2.1.1 x _ (fun j hj e => nt_t (by decide) (h1 j hj e (by rw [e]; exact zopt_s hj (by omega)))) (fun hno => nt_f rfl (h0 (zopt_n (by omega) hno)))
theorem W_needOb {A : zNt} {P : zPa} {s : zS} (h : ST A P s) (x : Int32) (Q : zS → Prop) (PX : String → zS → Prop) (h1 : ∀ j, j < nko A → x = nI j → zopt x (nko A) = some j → Q s) (h0 : zopt x (nko A) = none → PX "java/lang/IndexOutOfBoundsException" s) : W_X4_needObservation s x Q PX := by
  have hn := h.1.2.1
  exact W_hasObservation h.1 h.2.2.1.1 x _ (fun j hj e => nt_t (by decide) (h1 j hj e (by rw [e]; exact zopt_s hj (by omega)))) (fun hno => nt_f rfl (h0 (zopt_n (by omega) hno)))
theorem W_needObIn {A : zNt} {P : zPa} {s : zS} (h : ST A P s) (x : Int32) (Q : zS → Prop) (PX : String → zS → Prop) (h1 : ∀ j, j < nko A → x = nI j → zopt x (nko A) = some j → nwd A j = false → Q s) (h2 : ∀ j, zopt x (nko A) = some j → nwd A j = true → PX "java/lang/IllegalStateException" s) (h0 : zopt x (nko A) = none → PX "java/lang/IndexOutOfBoundsException" s) : W_X4_needObservationInNet s x Q PX := by
  have hn := h.1.2.1
  refine W_needOb h x _ _ (fun j hj e ho => ?_) h0
  subst e
  refine ⟨vp_in_nI (by omega) (by omega), ?_⟩
  rw [ix_nI (by omega), h.2.2.1.1.2.2.2.2 j (by omega)]
  exact br_c (fun c => h1 j hj rfl ho (bI_0.mp c)) (fun c => h2 j ho (bI_n0.mp c))
theorem W_isBey (s : zS) (x a b : Int32) (Q : Int32 → Prop) (h0 : a.toInt ≤ x.toInt ∧ x.toInt ≤ b.toInt → Q 0) (h1 : ¬ (a.toInt ≤ x.toInt ∧ x.toInt ≤ b.toInt) → Q 1) : W_X4_isBeyond s x a b Q := by
  unfold W_X4_isBeyond
  rw [Int32.lt_iff_toInt_lt, Int32.le_iff_toInt_le]
  exact br_c (fun c => h1 (by omega)) (fun c => br_c (fun c2 => h0 (by omega)) (fun c2 => h1 (by omega)))
theorem X_station {A : zNt} {P : zPa} {s : zS} (h : ST A P s) : W_X4_station s (fun r => okX (oStation A P) r.toInt64) (exX (oStation A P) ["java/lang/IllegalStateException"]) := by
  have hn := h.1.1
  unfold W_X4_station oStation
  rw [h.2.2.1.1.1]
  refine br_c (fun c => ?_) (fun c => ?_)
  · have h6 : nnn A < 6 := (nI_ltI (by omega) (by omega)).mp c
    rw [if_pos h6]
    refine W_addStation h.1 h.2.2.1 h6 _ (fun s' hS hR => ⟨rfl, nI_l64 (by omega), addSt_ok h.1 h6, ⟨h.2.1.1, fun q => ?_, h.2.1.2.2⟩, hR, h.2.2.2.sm hS ⟨by simp, by simp, by simp, by simp⟩⟩)
    have := h.2.1.2.1 q
    exact ⟨Nat.lt_succ_of_lt this.1, Nat.lt_succ_of_lt this.2⟩
  · have h6 : ¬ nnn A < 6 := fun q => c (nI_lt (b := 6) q (by omega))
    rw [if_neg h6]
    exact ⟨0, rfl, rfl, h⟩
theorem zrng_iff (x : Int32) : zrng x = true ↔ -9999 ≤ x.toInt ∧ x.toInt ≤ 9999 := by unfold zrng; exact decide_eq_true_iff
theorem X_datum {A : zNt} {P : zPa} {s : zS} (h : ST A P s) (x y : Int32) (b : Bool) : W_X4_datum s x y (bI b) (fun r => okX (oDatum A P x y b) (if r = 0 then 0 else 1)) (exX (oDatum A P x y b) ["java/lang/IndexOutOfBoundsException", "java/lang/IllegalArgumentException"]) := by
  unfold oDatum
  refine W_needSt h x _ _ (fun j hj e ho => ?_) (fun ho => by rw [ho]; exact ⟨0, rfl, rfl, h⟩)
  rw [ho]
  subst e
  have hfin : ∀ hv : (b = true → zrng y = true), W_X1_tellHeight s (nI j) y (bI b) (fun r4 s5 => narrow .boolean (.int r4) = .int r4 ∧ okX (if b = true ∧ zrng y = false then (2, 0, A, P) else (0, if ntl A j = true then 1 else 0, setTl A j b y.toInt, P)) (if r4 = 0 then 0 else 1) s5) := fun hv => by
    rw [if_neg (fun q => by rw [hv q.1] at q; exact absurd q.2 (by decide))]
    have := W_tellHeight h.1 h.2.2.1 hj y.toInt b rfl (fun r4 s5 => narrow .boolean (.int r4) = .int r4 ∧ okX (0, if ntl A j = true then 1 else 0, setTl A j b y.toInt, P) (if r4 = 0 then 0 else 1) s5) (fun s' hS hR => ⟨bI_nar _, rfl, bI_l _, setTl_ok h.1 hj b (fun q => (zrng_iff y).mp (hv q)), h.2.1, hR, h.2.2.2.sm hS ⟨by simp, by simp, by simp, by simp⟩⟩)
    rw [← iI_of y] at this
    exact this
  refine br_c (fun c => hfin (fun q => by rw [bI_0.mp c] at q; cases q)) (fun c => ?_)
  have hb := bI_n0.mp c
  refine W_isBey s y (-9999) 9999 _ (fun q => br_t rfl (hfin (fun _ => (zrng_iff y).mpr q))) (fun q => br_f (by decide) ?_)
  have hz : zrng y = false := by
    cases hh : zrng y
    · rfl
    · exact absurd ((zrng_iff y).mp hh) q
  dsimp only
  rw [if_pos ⟨hb, hz⟩]
  exact ⟨1, rfl, rfl, h⟩
theorem X_observe {A : zNt} {P : zPa} {s : zS} (h : ST A P s) (x y d w : Int32) : W_X4_observe s x y d w (fun r => okX (oObserve A P x y d w) r.toInt64) (exX (oObserve A P x y d w) ["java/lang/IndexOutOfBoundsException", "java/lang/IllegalArgumentException", "java/lang/IllegalStateException"]) := by
  have hn := h.1.1
  have hk := h.1.2.1
  unfold oObserve
  refine W_needSt h x _ _ (fun i hi e1 ho1 => ?_) (fun ho => by rw [ho]; exact ⟨0, rfl, rfl, h⟩)
  rw [ho1]
  refine W_needSt h y _ _ (fun j hj e2 ho2 => ?_) (fun ho => by rw [ho]; exact ⟨0, rfl, rfl, h⟩)
  rw [ho2]
  subst e1
  subst e2
  dsimp only
  refine nt_c (fun c => ?_) (fun c => ?_)
  · have hij : i ≠ j := fun q => c (by rw [q])
    refine W_isBey s d (-9999) 9999 _ (fun q => br_t rfl (W_isBey s w 1 5 _ (fun q2 => br_t rfl ?_) (fun q2 => br_f (by decide) ?_))) (fun q => br_f (by decide) ?_)
    · have hz : zrng d = true := (zrng_iff d).mpr q
      rw [if_neg (fun q3 => by rcases q3 with q3 | q3 | q3; exact hij q3; rw [hz] at q3; cases q3; exact q3 q2)]
      rw [h.2.2.1.1.2.1]
      refine br_c (fun c3 => ?_) (fun c3 => ?_)
      · have h14 : nko A < 14 := (nI_ltI (by omega) (by omega)).mp c3
        rw [if_pos h14]
        have := W_addObservation h.1 h.2.2.1 h14 hi hj hij q q2 (fun r s' => okX (0, lI (nko A), addOb A i j d.toInt w.toInt, P) r.toInt64 s') (fun s' hS hR => ⟨rfl, nI_l64 (by omega), addOb_ok h.1 h14 hi hj hij q q2, h.2.1, hR, h.2.2.2.sm hS ⟨by simp, by simp, by simp, by simp⟩⟩)
        rw [← iI_of d, ← iI_of w] at this
        exact this
      · have h14 : ¬ nko A < 14 := fun q => c3 (nI_lt (b := 14) q (by omega))
        rw [if_neg h14]
        exact ⟨2, rfl, rfl, h⟩
    · rw [if_pos (Or.inr (Or.inr (show ¬ (1 ≤ w.toInt ∧ w.toInt ≤ 5) from q2)))]
      exact ⟨1, rfl, rfl, h⟩
    · have hz : zrng d = false := by
        cases hh : zrng d
        · rfl
        · exact absurd ((zrng_iff d).mp hh) q
      rw [if_pos (Or.inr (Or.inl hz))]
      exact ⟨1, rfl, rfl, h⟩
  · rw [if_pos (Or.inl ((nI_eq (by omega) (by omega)).mp c))]
    exact ⟨1, rfl, rfl, h⟩
theorem X_withdraw {A : zNt} {P : zPa} {s : zS} (h : ST A P s) (x : Int32) (b : Bool) : W_X4_withdraw s x (bI b) (fun r => okX (oWithdraw A P x b) (if r = 0 then 0 else 1)) (exX (oWithdraw A P x b) ["java/lang/IndexOutOfBoundsException"]) := by
  unfold oWithdraw
  refine W_needOb h x _ _ (fun j hj e ho => ?_) (fun ho => by rw [ho]; exact ⟨0, rfl, rfl, h⟩)
  rw [ho]
  subst e
  exact W_setWithdrawn h.1 h.2.2.1 hj b rfl _ (fun s' hS hR => ⟨bI_nar _, rfl, bI_l _, setWd_ok h.1 hj b, h.2.1, hR, h.2.2.2.sm hS ⟨by simp, by simp, by simp, by simp⟩⟩)
theorem aWst_or {A : zNt} : ∀ k, ((aWst A k).1 = -1 ∧ (aWst A k).2 = 0) ∨ ∃ o, o < k ∧ (aWst A k).1 = (o : Int) ∧ nwd A o = false ∧ 0 < aScr A o ∧ (aWst A k).2 = aScr A o
  | 0 => Or.inl ⟨rfl, rfl⟩
  | k + 1 => by
    have ih := aWst_or (A := A) k
    simp only [aWst]
    by_cases c : (if nwd A k = true then 0 else aScr A k) ≤ (aWst A k).2
    · rw [if_pos c]
      rcases ih with ih | ⟨o, h1, h2⟩
      · exact Or.inl ih
      · exact Or.inr ⟨o, by omega, h2⟩
    · rw [if_neg c]
      have h0 : 0 ≤ (aWst A k).2 := by
        rcases ih with ih | ⟨o, h1, h2, h3, h4, h5⟩ <;> omega
      cases hw : nwd A k
      · rw [hw, if_neg (by decide)] at c
        refine Or.inr ⟨k, by omega, rfl, hw, by omega, by rw [if_neg (by decide)]⟩
      · rw [hw, if_pos rfl] at c
        omega
theorem X_clean {A : zNt} {P : zPa} {s : zS} (h : ST A P s) (b : Int32) : W_X4_clean s b (fun r => okX (oClean A P b) r.toInt64) (exX (oClean A P b) ["java/lang/IllegalArgumentException"]) := by
  unfold oClean
  refine W_isBey s b 0 1000000000 _ (fun q => br_t rfl (nm_e ?_)) (fun q => br_f (by decide) ?_)
  · have q' : 0 ≤ b.toInt ∧ b.toInt ≤ 1000000000 := q
    rw [if_pos q']
    obtain ⟨R, hRd⟩ : ∃ R, R = aCl b.toInt 14 A := ⟨_, rfl⟩
    rw [← hRd]
    obtain ⟨I, eI⟩ : ∃ I : Nat → zS → Prop, I = fun i s' => i ≤ 14 ∧ ∃ B, ST B P s' ∧ R.1 = i + (aCl b.toInt (14 - i) B).1 ∧ R.2 = (aCl b.toInt (14 - i) B).2 := ⟨_, rfl⟩
    obtain ⟨m, hm⟩ := pk_loop (fun m i s' => W_X4_clean_L22 b (fun r => okX (0, lI R.1, R.2, P) r.toInt64) (I 14) m (nI i) s') I 14 0 s (Nat.zero_le _)
      (by rw [eI]; exact ⟨Nat.zero_le _, A, h, by rw [hRd]; simp, by rw [hRd]⟩)
      (fun m s' hI => br_t (nI_le (Nat.le_refl 14) (by omega)) hI)
      (fun m i s' hi hI hgo => by
        rw [eI] at hI
        obtain ⟨-, B, hB, r1, r2⟩ := hI
        have e14 : 14 - i = (14 - (i + 1)) + 1 := by omega
        rw [e14] at r1 r2
        simp only [aCl] at r1 r2
        have hk := hB.1.2.1
        refine br_f (nI_ge (b := 14) hi (by omega)) (W_worst hB.1 hB.2.2.1 _ (fun s2 hS2 hR2 => nm_e ?_))
        have hB2 := ST_scr hB hS2
        have hwl := aWst_le hB.1 (nko B) (Nat.le_refl _)
        have hiff : iI (aWst B (nko B)).1 = -1 ↔ (aWst B (nko B)).1 = -1 := iI_eq (b := -1) ⟨by omega, by omega⟩ ⟨by omega, by omega⟩
        refine br_c (fun c => ?_) (fun c => ?_)
        · rw [if_pos (Or.inl (hiff.mp c))] at r1 r2
          refine ⟨rfl, ?_, ?_⟩
          · rw [r1]
            exact nI_l64 (by omega)
          · rw [r2]
            exact hB2
        · have c2 : (aWst B (nko B)).1 ≠ -1 := fun q => c (hiff.mpr q)
          rcases aWst_or (A := B) (nko B) with ⟨c3, -⟩ | ⟨o, ho, e1, e2, e3, e4⟩
          · exact absurd c3 c2
          · rw [e1] at r1 r2 ⊢
            rw [Int.toNat_natCast] at r1 r2
            rw [← nI_iI]
            have hsl := aScr_le hB.1 ho
            refine W_scoreOf hB.1 hR2 ho _ (fun s3 hS3 hR3 => ?_)
            have hB3 := ST_scr hB2 hS3
            have hlt : b.toInt64 < lI (aScr B o) ↔ b.toInt < aScr B o := by
              have hb := iI_B b
              rw [show b.toInt64 = lI b.toInt by conv => lhs; rw [iI_of b]
                                                 exact iI_l hb]
              exact lI_lt ⟨by omega, by omega⟩ ⟨by omega, by omega⟩
            refine br_c (fun c4 => ?_) (fun c4 => ?_)
            · have c5 := hlt.mp c4
              rw [if_neg (by omega)] at r1 r2
              refine W_setWithdrawn hB3.1 hB3.2.2.1 ho true rfl _ (fun s4 hS4 hR4 => nm_r (nI_1 i) (hgo s4 ?_))
              rw [eI]
              refine ⟨by omega, setWd B o true, ⟨setWd_ok hB.1 ho true, hB.2.1, hR4, hB3.2.2.2.sm hS4 ⟨by simp, by simp, by simp, by simp⟩⟩, ?_, r2⟩
              rw [r1]
              dsimp only
              omega
            · have c5 : ¬ b.toInt < aScr B o := fun q => c4 (hlt.mpr q)
              rw [if_pos (Or.inr (by omega))] at r1 r2
              refine ⟨rfl, ?_, ?_⟩
              · rw [r1]
                exact nI_l64 (by omega)
              · rw [r2]
                exact hB3)
    refine ⟨_, m, fun s' hI => ?_, hm⟩
    rw [eI] at hI
    obtain ⟨-, B, hB, r1, r2⟩ := hI
    simp only [Nat.sub_self, aCl] at r1 r2
    refine ⟨rfl, ?_, ?_⟩
    · rw [r1]
      rfl
    · rw [r2]
      exact hB
  · have q' : ¬ (0 ≤ b.toInt ∧ b.toInt ≤ 1000000000) := q
    rw [if_neg q']
    exact ⟨0, rfl, rfl, h⟩
end ZOPS

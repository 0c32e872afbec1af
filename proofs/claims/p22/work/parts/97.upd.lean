/-! HOW EACH CALL CHANGES WHAT THE LAW'S ARRAYS HOLD -/
section ZUP
variable {A : zNt} {P : zPa} {m t e : Nat → Int32}
theorem upd_s (f : Nat → Int32) (k : Nat) (v : Int32) : upd f k v k = v := if_pos rfl
theorem upd_n (f : Nat → Int32) {k j : Nat} (v : Int32) (h : j ≠ k) : upd f k v j = f j := if_neg h
theorem upd_id (f : Nat → Int32) {k : Nat} {v : Int32} (h : v = f k) : upd f k v = f := funext (fun j => by
  by_cases c : j = k
  · rw [c, upd_s]
    exact h
  · rw [upd_n _ _ c])
theorem LI_st (h : LI A P m t e) (h6 : nnn A < 6) : LI (addSt A) P (upd m (ix 0) (m (ix 0) + 1)) t e := by
  obtain ⟨hA, hP, h12, m0, m1, m2, m3, ht, he, h4⟩ := h
  refine ⟨addSt_ok hA h6, ⟨hP.1, fun q => ?_, hP.2.2⟩, h12, ?_, ?_, ?_, ?_, ht, he, h4⟩
  · have := hP.2.1 q
    exact ⟨Nat.lt_succ_of_lt this.1, Nat.lt_succ_of_lt this.2⟩
  · show upd m 0 (m 0 + 1) 0 = nI (nnn A + 1)
    rw [upd_s, m0, nI_1]
  · show upd m 0 (m 0 + 1) 1 = nI (nko A)
    rw [upd_n _ _ (by decide)]
    exact m1
  · show upd m 0 (m 0 + 1) 2 = nI P.1
    rw [upd_n _ _ (by decide)]
    exact m2
  · show upd m 0 (m 0 + 1) 3 = P.2.2.2
    rw [upd_n _ _ (by decide)]
    exact m3
theorem LI_dat (h : LI A P m t e) {j : Nat} (hj : j < nnn A) {b : Bool} {d : Int} (hd : b = true → -9999 ≤ d ∧ d ≤ 9999) {v1 v2 : Int32} (h1 : v1 = bI b) (h2 : v2 = iI (if b = true then d else 0)) : LI (setTl A j b d) P m (upd (upd t (2 * j) v1) (2 * j + 1) v2) e := by
  obtain ⟨hA, hP, h12, m0, m1, m2, m3, ht, he, h4⟩ := h
  refine ⟨setTl_ok hA hj b hd, hP, h12, m0, m1, m2, m3, fun k hk => ?_, he, h4⟩
  show upd (upd t (2 * j) v1) (2 * j + 1) v2 (2 * k) = bI (zup (ntl A) j b k) ∧ upd (upd t (2 * j) v1) (2 * j + 1) v2 (2 * k + 1) = iI (zup (nth A) j (if b = true then d else 0) k)
  by_cases c : k = j
  · subst c
    rw [upd_n _ _ (by omega), upd_s, upd_s, zup_s, zup_s]
    exact ⟨h1, h2⟩
  · rw [upd_n _ _ (by omega), upd_n _ _ (by omega), upd_n _ _ (by omega), upd_n _ _ (by omega), zup_n _ _ c, zup_n _ _ c]
    exact ht k hk
theorem LI_ob (h : LI A P m t e) (hk : nko A < 12) {f g : Nat} {d w : Int} (hf : f < nnn A) (hg : g < nnn A) (hne : f ≠ g) (hd : -9999 ≤ d ∧ d ≤ 9999) (hw : 1 ≤ w ∧ w ≤ 5) {v3 : Int32} : LI (addOb A f g d w) P (upd m (ix 1) (m (ix 1) + 1)) t (upd (upd (upd (upd e (5 * nko A) (nI f)) (5 * nko A + 1) (nI g)) (5 * nko A + 2) (iI d)) (5 * nko A + 3) v3) := by
  obtain ⟨hA, hP, h12, m0, m1, m2, m3, ht, he, h4⟩ := h
  refine ⟨addOb_ok hA (by omega) hf hg hne hd hw, hP, ?_, ?_, ?_, ?_, ?_, ht, fun o ho => ?_, fun o ho => ?_⟩
  · show nko A + 1 ≤ 12
    omega
  · show upd m 1 (m 1 + 1) 0 = nI (nnn A)
    rw [upd_n _ _ (by decide)]
    exact m0
  · show upd m 1 (m 1 + 1) 1 = nI (nko A + 1)
    rw [upd_s, m1, nI_1]
  · show upd m 1 (m 1 + 1) 2 = nI P.1
    rw [upd_n _ _ (by decide)]
    exact m2
  · show upd m 1 (m 1 + 1) 3 = P.2.2.2
    rw [upd_n _ _ (by decide)]
    exact m3
  · have ho' : o < nko A + 1 := ho
    by_cases c : o = nko A
    · subst c
      rw [ad_fk, ad_tk, ad_dk]
      refine ⟨?_, ?_, ?_⟩
      · rw [upd_n _ _ (by omega), upd_n _ _ (by omega), upd_n _ _ (by omega), upd_s]
      · rw [upd_n _ _ (by omega), upd_n _ _ (by omega), upd_s]
      · rw [upd_n _ _ (by omega), upd_s]
    · have hlt : o < nko A := by omega
      rw [ad_fr hlt, ad_to hlt, ad_df hlt]
      rw [upd_n _ _ (by omega), upd_n _ _ (by omega), upd_n _ _ (by omega), upd_n _ _ (by omega), upd_n _ _ (by omega), upd_n _ _ (by omega), upd_n _ _ (by omega), upd_n _ _ (by omega), upd_n _ _ (by omega), upd_n _ _ (by omega), upd_n _ _ (by omega), upd_n _ _ (by omega)]
      exact he o hlt
  · rw [upd_n _ _ (by omega), upd_n _ _ (by omega), upd_n _ _ (by omega), upd_n _ _ (by omega)]
    exact h4 o ho
theorem LI_wd (h : LI A P m t e) {o : Nat} (ho : o < nko A) (b : Bool) {v : Int32} (hv : v = bI b) : LI (setWd (setWd A o b) o b) P m t (upd e (5 * o + 4) v) := by
  obtain ⟨hA, hP, h12, m0, m1, m2, m3, ht, he, h4⟩ := h
  refine ⟨setWd_ok (setWd_ok hA ho b) ho b, hP, h12, m0, m1, m2, m3, ht, fun q hq => ?_, fun q hq => ?_⟩
  · rw [upd_n _ _ (by omega), upd_n _ _ (by omega), upd_n _ _ (by omega)]
    exact he q hq
  · show _ = bI (zup (zup (nwd A) o b) o b q)
    by_cases c : q = o
    · rw [c, upd_s, zup_s]
      exact hv
    · rw [upd_n _ _ (by omega), zup_n _ _ c, zup_n _ _ c]
      exact h4 q hq
theorem LI_pa (h : LI A P m t e) {P' : zPa} (hP' : pok A P') {v : Int32} (hv : v = nI P'.1) : LI A P' (upd (upd m (ix 2) v) (ix 3) P'.2.2.2) t e := by
  obtain ⟨hA, hP, h12, m0, m1, m2, m3, ht, he, h4⟩ := h
  refine ⟨hA, hP', h12, ?_, ?_, ?_, ?_, ht, he, h4⟩
  · show upd (upd m 2 v) 3 P'.2.2.2 0 = nI (nnn A)
    rw [upd_n _ _ (by decide), upd_n _ _ (by decide)]
    exact m0
  · show upd (upd m 2 v) 3 P'.2.2.2 1 = nI (nko A)
    rw [upd_n _ _ (by decide), upd_n _ _ (by decide)]
    exact m1
  · show upd (upd m 2 v) 3 P'.2.2.2 2 = nI P'.1
    rw [upd_n _ _ (by decide), upd_s]
    exact hv
  · show upd (upd m 2 v) 3 P'.2.2.2 3 = P'.2.2.2
    rw [upd_s]
/-- while cleaning is counted: of the first i observations e holds what is so now, of the others what was -/
def EI (A : zNt) (e0 : Nat → Int32) (g : Nat → Bool) (i : Nat) (e : Nat → Int32) : Prop := (∀ o c, c < 4 → e (5 * o + c) = e0 (5 * o + c)) ∧ (∀ o, o ≤ 12 → e (5 * o + 4) = if o < i then bI (g o) else bI (nwd A o))
theorem LI_cl (h : LI A P m t e) {g : Nat → Bool} (hB : zok (withG A g)) {e' : Nat → Int32} (hE : EI A e g (nko A) e') : LI (withG A g) P m t e' := by
  obtain ⟨hA, hP, h12, m0, m1, m2, m3, ht, he, h4⟩ := h
  refine ⟨hB, hP, h12, m0, m1, m2, m3, ht, fun o ho => ?_, fun o ho => ?_⟩
  · have h0 := hE.1 o 0 (by decide)
    have h1 := hE.1 o 1 (by decide)
    have h2 := hE.1 o 2 (by decide)
    have := he o ho
    rw [Nat.add_zero] at h0
    rw [h0, h1, h2]
    exact this
  · rw [hE.2 o ho]
    by_cases c : o < nko A
    · rw [if_pos c]
      rfl
    · rw [if_neg c, hA.2.2.2.2.2 o (by omega)]
      have := hB.2.2.2.2.2 o (show nko A ≤ o by omega)
      rw [this]
theorem a9_no {B : zNt} (hB : zok B) {i : Nat} (hi : i < nko B) (hw : nwd B i = false) {P : zPa} {y c d : Int32} : ∃ v : Int64, aAct B P 9 (nI i) y c d = (v, B, P) ∧ ¬ v = -161300000000000000 := by
  have hk := hB.2.1
  have hr := res_le hB hi
  refine ⟨lI (aRes B i), ?_, ?_⟩
  · rw [aAct_9, oOb_of hB hi hw rfl]
    rfl
  · rw [show (-161300000000000000 : Int64) = lI (-161300000000000000) from rfl, lI_eq ⟨by omega, by omega⟩ ⟨by omega, by omega⟩]
    omega
end ZUP

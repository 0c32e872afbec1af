/-! WHAT IS ASKED IS SOUND -/
section ZSO
variable {A : zNt} {P : zPa} {m t e : Nat → Int32}
/-- no observation among the first i is in the net at station k -/
def iso (A : zNt) (k i : Nat) : Prop := ∀ o, o < i → nwd A o = false → nfr A o ≠ k ∧ nto A o ≠ k
theorem snd73 (h : LI A P m t e) {k : Nat} (hk : k < nnn A) {p0 x15 x16 : Int32} {x212 x18 x205 : Int64} {Q K : Int32 → Prop} (hK : ∀ v, (¬ v = 0 → iso A k (nko A)) → K v) : ∀ r i, i + r = nko A → ∀ v : Int32, (¬ v = 0 → iso A k i) → W_L_areSound_L73 A P m t e p0 x15 x16 x212 x18 (nI k) x205 Q K (r + 1) v (nI i)
  | 0, i, hi, v, hv => ⟨vm1, br_t (c_le h.m1 (by omega) (by have := h.1.2.1; omega)) (hK v (by rw [← (show i = nko A by omega)]; exact hv))⟩
  | r + 1, i, hi, v, hv => by
    have hn := h.1.1
    have hk12 := h.2.2.1
    have hin : i < nko A := by omega
    obtain ⟨f1, f2, f3, -⟩ := h.1.2.2.1 i hin
    have ih := snd73 h hk (p0 := p0) (x15 := x15) (x16 := x16) (x212 := x212) (x18 := x18) (x205 := x205) (Q := Q) hK r (i + 1) (by omega)
    have fin : ∀ w : Int32, (¬ w = 0 → iso A k (i + 1)) → ∀ x : Int32, x = w → ∀ x172 : Int32, x172 = nI i + 1 → W_L_areSound_L73 A P m t e p0 x15 x16 x212 x18 (nI k) x205 Q K (r + 1) x x172 := fun w hw => nm_e (nm_r (nI_1 i) (ih w hw))
    have i0 : ¬ (0 : Int32) = 0 → iso A k (i + 1) := fun q => absurd rfl q
    have hk0 : ∀ j : Nat, j < nnn A → (nI j = nI k ↔ j = k) := fun j hj => nI_eq (by omega) (by omega)
    refine ⟨vm1, br_f (c_nle h.m1 hin (by omega)) ⟨v5_0 (by omega), fun v => v = nI k → nfr A i ≠ k ∧ nto A i ≠ k, fun x hx => nm_e (br_c (fun _ => fin 0 i0) (fun c => ⟨v5_4 (by omega), ?_⟩)), ?_⟩⟩
    · rw [h.e4 (show i ≤ 12 by omega)]
      cases hw : nwd A i
      · refine br_f (by decide) (nt_c (fun _ => fin 0 i0) (fun d => fin 1 (fun _ o ho hwo => ?_)))
        by_cases e : o = i
        · rw [e]
          exact hx d
        · exact hv c o (by omega) hwo
      · refine br_t rfl (fin 1 (fun _ o ho hwo => ?_))
        by_cases e : o = i
        · rw [e, hw] at hwo
          cases hwo
        · exact hv c o (by omega) hwo
    · rw [h.e0 hin, h.e1 hin]
      refine nt_c (fun c0 => ⟨v5_1 (by omega), nt_c (fun c1 => ?_) (fun c1 => ⟨v5_0 (by omega), ?_⟩)⟩) (fun c0 => ⟨v5_1 (by omega), ?_⟩)
      · exact fun _ => ⟨fun q => c0 ((hk0 _ f1).mpr q), fun q => c1 ((hk0 _ f2).mpr q)⟩
      · exact fun q => absurd q c0
      · intro q
        have q1 := (hk0 _ f1).mp c0
        have q2 := (hk0 _ f2).mp q
        exact absurd (q1.trans q2.symm) f3
theorem snd35 (h : LI A P m t e) {p0 x15 x16 : Int32} {x18 : Int64} {a : Nat} (ha : a < 2 ^ 31) (hp : p0 = nI a) {Q : Int32 → Prop} {K : Int32 → Int64 → Prop} (hK : K 1 (lI (sN (aFre A) (nnn A)))) : ∀ r k, k + r = nnn A → W_L_areSound_L35 A P m t e p0 x15 x16 x18 Q K (r + 1) 1 (lI (sN (aFre A) k)) (nI k)
  | 0, k, hk => ⟨vm0, br_t (c_le h.m0 (by omega) (by have := h.1.1; omega)) (by rw [show k = nnn A by omega]; exact hK)⟩
  | r + 1, k, hk => by
    have hn := h.1.1
    have hk12 := h.2.2.1
    have hkn : k < nnn A := by omega
    have ih := snd35 h (p0 := p0) (x15 := x15) (x16 := x16) (x18 := x18) ha hp (Q := Q) hK r (k + 1) (by omega)
    have fin : ∀ x : Int32, x = 1 → ∀ x172 : Int32, x172 = nI k + 1 → W_L_areSound_L35 A P m t e p0 x15 x16 x18 Q K (r + 1) x (lI (sN (aFre A) (k + 1))) x172 := nm_e (nm_r (nI_1 k) ih)
    have hl := hgt_le h.1 hkn
    have hT := pT_pos h.1 hkn
    have hT2 := (pT_lim h.1 (w := 14) hkn).2
    refine ⟨vm0, br_f (c_nle h.m0 hkn (by omega)) (br_f (by decide) ⟨k, hkn, rfl, nm_e (nm_e ⟨k, hkn, rfl, nm_e (nm_r (lI_add _ _) (nm_e (nm_e ⟨fun v => ¬ v = 0 → iso A k (nko A), nko A + 1, by omega, fun v hv => ⟨k, hkn, rfl, nm_e (br_f ?_ ⟨True, fun _ => ⟨vm0, ?_, True, fun _ => br_f ?_ (br_f ?_ fin), nt_c (fun _ => trivial) (fun _ => ⟨vm1, br_c (fun _ => trivial) (fun _ => ⟨k, hkn, rfl, nm_e (nt_f rfl trivial)⟩)⟩)⟩, br_c (fun _ => trivial) (fun c => ⟨?_, ?_⟩)⟩)⟩, ?_⟩)))⟩)⟩)⟩
    · rw [lI_0, lI_le ⟨by omega, by omega⟩ ⟨by omega, by omega⟩]
      omega
    · rw [h.m0]
      exact nI_0n (by omega) (by omega)
    · rw [show (-6000000 : Int64) = lI (-6000000) from rfl, lI_lt ⟨by omega, by omega⟩ ⟨by omega, by omega⟩]
      omega
    · rw [show (6000000 : Int64) = lI 6000000 from rfl, lI_lt ⟨by omega, by omega⟩ ⟨by omega, by omega⟩]
      omega
    · rw [e2_1]
      exact vp_in_nI (by omega) (by omega)
    · obtain ⟨a1, a2, a3⟩ := alone h.1 hkn (hv c)
      have ht : t (ix (2 * nI k + 1)) = iI (nth A k) := by
        rw [e2_1, ix_nI (by omega)]
        exact (h.2.2.2.2.2.2.2.1 k (by omega)).2
      have hh := h.1.2.2.2.1 k (by omega)
      rw [ht, a2]
      refine nt_f ?_ ⟨k, hkn, rfl, nm_e (nt_f ?_ ⟨k, hkn, rfl, nm_e (nt_f ?_ trivial)⟩)⟩
      · rw [iI_l ⟨by omega, by omega⟩, show (100 : Int64) = lI 100 from rfl, lI_mul]
      · rw [a1]
        rfl
      · rw [a3]
        rfl
    · exact snd73 h hkn (K := fun v => ¬ v = 0 → iso A k (nko A)) (fun v hv => hv) (nko A) 0 (by omega) 1 (fun _ o ho => absurd ho (Nat.not_lt_zero o))
theorem snd343 (h : LI A P m t e) {p0 x15 : Int32} {Q : Int32 → Prop} {K : Int32 → Int32 → Int64 → Prop} (hK : K 1 (nI (ninn A (nko A))) (lI (sN (fun o => if (!nwd A o) = true then aChk A o else 0) (nko A)))) : ∀ r k, k + r = nko A → W_L_areSound_L343 A P m t e p0 x15 (iI (aWst A (nko A)).1) (lI (aWst A (nko A)).2) Q K (r + 1) 1 (nI (ninn A k)) (lI (sN (fun o => if (!nwd A o) = true then aChk A o else 0) k)) (nI k)
  | 0, k, hk => ⟨vm1, br_t (c_le h.m1 (by omega) (by have := h.1.2.1; omega)) (by rw [show k = nko A by omega]; exact hK)⟩
  | r + 1, k, hk => by
    have hn := h.1.1
    have hk12 := h.2.2.1
    have hkn : k < nko A := by omega
    obtain ⟨f1, f2, f3, f4, f5, f6⟩ := h.1.2.2.1 k hkn
    have ih := snd343 h (p0 := p0) (x15 := x15) (Q := Q) hK r (k + 1) (by omega)
    refine ⟨vm1, br_f (c_nle h.m1 hkn (by omega)) (br_f (by decide) ⟨v5_4 (by omega), ?_⟩)⟩
    rw [h.e4 (show k ≤ 12 by omega)]
    cases hw : nwd A k
    · have e1 : ninn A (k + 1) = ninn A k + 1 := by
        unfold ninn
        simp only [zcn]
        rw [if_pos (by rw [hw]; rfl)]
      have e2 : sN (fun o => if (!nwd A o) = true then aChk A o else 0) (k + 1) = sN (fun o => if (!nwd A o) = true then aChk A o else 0) k + aChk A k := by
        simp only [sN]
        rw [if_pos (by rw [hw]; rfl)]
      rw [e1, e2] at ih
      have hc := chk_lt h.1 hkn hw
      have hs := aScr_le h.1 hkn
      have hr := res_le h.1 hkn
      have hg := res_hgt h.1 hkn hw
      have hm := aWst_most h.1 (nko A) (Nat.le_refl _) k hkn hw
      have hwl := aWst_le h.1 (nko A) (Nat.le_refl _)
      have g1 := hgt_le h.1 f1
      have g2 := hgt_le h.1 f2
      have hdue : (lI (aHgt A (nto A k)) - lI (aHgt A (nfr A k))) - (100 * (e (ix (5 * nI k + 2))).toInt64) = lI (aHgt A (nto A k) - aHgt A (nfr A k) - 100 * ndf A k) := by
        rw [h.e2 hkn, iI_l ⟨by omega, by omega⟩, lI_sub, show (100 : Int64) = lI 100 from rfl, lI_mul, lI_sub]
      have hsum : lI (sN (fun o => if (!nwd A o) = true then aChk A o else 0) k) + (iI (aChk A k)).toInt64 = lI (sN (fun o => if (!nwd A o) = true then aChk A o else 0) k + aChk A k) := by
        rw [iI_l ⟨by omega, by omega⟩, lI_add]
      have hpT : lI (pT A (nfr A k) 14) = lI (pT A (nto A k) 14) := by rw [pT_cg (cI_edge hkn hw)]
      have fin : ∀ x : Int32, x = 1 → ∀ x172 : Int32, x172 = nI k + 1 → W_L_areSound_L343 A P m t e p0 x15 (iI (aWst A (nko A)).1) (lI (aWst A (nko A)).2) Q K (r + 1) x (nI (ninn A k + 1)) (lI (sN (fun o => if (!nwd A o) = true then aChk A o else 0) k + aChk A k)) x172 := nm_e (nm_r (nI_1 k) ih)
      refine nt_f rfl ⟨k, hkn, rfl, hw, nm_e (nm_e ⟨v5_1 (by omega), nto A k, f2, h.e1 hkn, nm_e ⟨v5_0 (by omega), nfr A k, f1, h.e0 hkn, nm_e ⟨v5_2 (by omega), nm_r hdue ⟨k, hkn, rfl, hw, nm_e (nm_e ⟨k, hkn, rfl, hw, nm_e (nm_e (nm_r (nI_1 _) (nm_r hsum ?_)))⟩)⟩⟩⟩⟩)⟩
      refine br_f ?_ (br_f ?_ (br_f ?_ (br_f ?_ (br_f ?_ (br_f ?_ ⟨True, fun _ => ⟨True, fun _ => ⟨vm1, ?_, True, fun _ => ⟨v5_0 (by omega), nfr A k, f1, h.e0 hkn, nm_e ⟨v5_1 (by omega), nto A k, f2, h.e1 hkn, nm_e (nt_f hpT fin)⟩⟩, nt_c (fun _ => trivial) (fun _ => ⟨vm1, br_c (fun _ => trivial) (fun _ => ⟨k, hkn, rfl, hw, nm_e (nt_f rfl trivial)⟩)⟩)⟩, br_c (fun _ => trivial) (fun c => nt_f ?_ (nt_f ?_ trivial))⟩, br_c (fun _ => trivial) (fun c => br_f ?_ trivial)⟩)))))
      · rw [lI_1, lI_sub, lI_lt ⟨by omega, by omega⟩ ⟨by omega, by omega⟩]
        omega
      · rw [lI_1, lI_add, lI_lt ⟨by omega, by omega⟩ ⟨by omega, by omega⟩]
        omega
      · rw [iI_0, iI_lt ⟨by omega, by omega⟩ ⟨by omega, by omega⟩]
        omega
      · rw [show (1000 : Int32) = iI 1000 from rfl, iI_le ⟨by omega, by omega⟩ ⟨by omega, by omega⟩]
        omega
      · rw [lI_0, lI_lt ⟨by omega, by omega⟩ ⟨by omega, by omega⟩]
        omega
      · rw [lI_lt ⟨by omega, by omega⟩ ⟨by omega, by omega⟩]
        omega
      · rw [h.m1]
        exact nI_0n (by omega) (by omega)
      · have : aChk A k = 0 := by
          rw [iI_0, iI_lt ⟨by omega, by omega⟩ ⟨by omega, by omega⟩] at c
          omega
        rw [(res_0 h.1 hkn hw this).2]
        rfl
      · have : aChk A k = 0 := by
          rw [iI_0, iI_lt ⟨by omega, by omega⟩ ⟨by omega, by omega⟩] at c
          omega
        rw [(res_0 h.1 hkn hw this).1]
        rfl
      · rw [lI_lt ⟨by omega, by omega⟩ ⟨by omega, by omega⟩] at c
        have := hm.2 (by omega)
        rw [nI_iI, iI_lt ⟨by omega, by omega⟩ ⟨by omega, by omega⟩]
        omega
    · have e1 : ninn A (k + 1) = ninn A k := by
        unfold ninn
        simp only [zcn]
        rw [if_neg (by rw [hw]; decide)]
      have e2 : sN (fun o => if (!nwd A o) = true then aChk A o else 0) (k + 1) = sN (fun o => if (!nwd A o) = true then aChk A o else 0) k := by
        simp only [sN]
        rw [if_neg (by rw [hw]; decide)]
        exact Int.add_zero _
      rw [e1, e2] at ih
      exact nt_t (by decide) (nm_r (nI_1 k) ih)
theorem areSound_ok (h : LI A P m t e) {p0 : Int32} (hp0 : 0 ≤ p0.toInt) {Q : Int32 → Prop} (hQ : Q 1) : W_L_areSound A P m t e p0 Q := by
  obtain ⟨a, ha, hp⟩ := nI_nn hp0
  have hn := h.1.1
  have hk := h.2.2.1
  have hfs := fre_sum h.1
  have hcs := chk_sum h.1
  have hpr : nprt A ≤ nnn A := zcn_le _ _
  have hin : ninn A (nko A) ≤ nko A := zcn_le _ _
  have hwl := aWst_le h.1 (nko A) (Nat.le_refl _)
  have hx61 : 1000 * ((nI (ninn A (nko A)) - m (ix 0) + nI (nprt A))).toInt64 = lI (1000 * ((ninn A (nko A) : Int) - nnn A + nprt A)) := by
    rw [h.m0, nI_iI, nI_iI, nI_iI, iI_sub, iI_add, iI_l ⟨by omega, by omega⟩, show (1000 : Int64) = lI 1000 from rfl, lI_mul]
  refine nm_e ⟨vm3, fun v => v = 1, fun v hv => nm_e (nm_e (nm_e (nm_e (nm_e (nm_e (nm_e ⟨fun v f => v = 1 ∧ f = lI (sN (aFre A) (nnn A)), nnn A + 1, by omega, fun v26 v27 hv2 => ⟨fun v => v = 1, fun v33 hv3 => nm_e (nm_e (nm_e ⟨fun v => v = lI (aWst A (nko A)).2, fun v44 hv4 => nm_e (nm_e ⟨fun v c f => v = 1 ∧ c = nI (ninn A (nko A)) ∧ f = lI (sN (fun o => if (!nwd A o) = true then aChk A o else 0) (nko A)), nko A + 1, by omega, fun v55 v56 v57 hv5 => ?_, ?_⟩), ?_⟩)), ?_⟩, ?_⟩)))))), ?_⟩
  · obtain ⟨q1, q2, q3⟩ := hv5
    rw [q1, q2, q3]
    refine ⟨vm0, nm_r hx61 (br_f (by decide) (br_f ?_ ⟨vm0, br_f ?_ (br_f ?_ (br_f ?_ (br_c (fun _ => ⟨rfl, hQ⟩) (fun c => br_f ?_ ⟨rfl, hQ⟩))))⟩))⟩
    · rw [iI_0, nI_iI, iI_lt ⟨by omega, by omega⟩ ⟨by omega, by omega⟩]
      omega
    · rw [h.m0, nI_iI, nI_iI, iI_lt ⟨by omega, by omega⟩ ⟨by omega, by omega⟩]
      omega
    · rw [lI_lt ⟨by omega, by omega⟩ ⟨by omega, by omega⟩]
      omega
    · rw [nI_iI, iI_l ⟨by omega, by omega⟩, lI_sub, lI_1, lI_sub, lI_le ⟨by omega, by omega⟩ ⟨by omega, by omega⟩]
      omega
    · rw [iI_0, iI_lt ⟨by omega, by omega⟩ ⟨by omega, by omega⟩] at c
      rw [show v44 = _ from hv4, lI_0, lI_le ⟨by omega, by omega⟩ ⟨by omega, by omega⟩]
      rcases aWst_or (A := A) (nko A) with ⟨c1, -⟩ | ⟨o, h1, h2, h3, h4, h5⟩ <;> omega
  · rw [show v33 = 1 from hv3, show v44 = _ from hv4]
    exact snd343 h (K := fun v c f => v = 1 ∧ c = nI (ninn A (nko A)) ∧ f = lI (sN (fun o => if (!nwd A o) = true then aChk A o else 0) (nko A))) ⟨rfl, rfl, rfl⟩ (nko A) 0 (by omega)
  · rcases aWst_or (A := A) (nko A) with ⟨c1, c2⟩ | ⟨o, h1, h2, h3, h4, h5⟩
    · refine br_f ?_ ?_
      · rw [c1]
        decide
      · show (0 : Int64) = lI (aWst A (nko A)).2
        rw [c2]
        rfl
    · refine br_t ?_ ⟨o, h1, by rw [h2]; exact (nI_iI o).symm, h3, nm_e ?_⟩
      · rw [iI_0, iI_le ⟨by omega, by omega⟩ ⟨by omega, by omega⟩]
        omega
      · show lI (aScr A o) = lI (aWst A (nko A)).2
        rw [h5]
  · obtain ⟨q1, q2⟩ := hv2
    rw [q1, q2]
    refine br_f (by decide) (br_f ?_ ⟨vm0, br_f ?_ rfl⟩)
    · rw [lI_0, lI_lt ⟨by omega, by omega⟩ ⟨by omega, by omega⟩]
      omega
    · rw [h.m0, nI_iI, iI_neg, iI_l ⟨by omega, by omega⟩, lI_1, lI_sub, lI_le ⟨by omega, by omega⟩ ⟨by omega, by omega⟩]
      omega
  · rw [show v = 1 from hv]
    exact snd35 h ha hp (K := fun v f => v = 1 ∧ f = lI (sN (aFre A) (nnn A))) ⟨rfl, rfl⟩ (nnn A) 0 (by omega)
  · rw [h.m3]
    exact nt_f rfl rfl
end ZSO

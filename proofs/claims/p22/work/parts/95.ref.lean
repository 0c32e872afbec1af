/-! WHAT THROWS AND WHAT ONLY ASKS CHANGES NOTHING -/
section ZRF
variable {A : zNt} {P : zPa} {m t e : Nat → Int32}
theorem rem30 {p0 : Int32} {a : Nat} (ha : a < 2 ^ 31) (hp : p0 = nI a) : irm p0 30 = iI ((a % 30 : Nat) : Int) := by
  rw [hp]
  exact (nI_irm (b := 30) ha (by omega) (by omega)).trans (nI_iI _)
theorem iI_out {a : Int} (hB : zB3 a) {n : Nat} (h : a < 0 ∨ (n : Int) ≤ a) : zopt (iI a) n = none := zopt_no (by rw [iI_toInt hB]; omega)
theorem ref328 (h : LI A P m t e) {p0 x8 x15 : Int32} {x26 : Int64} {a : Nat} (ha : a < 2 ^ 31) (hp : p0 = nI a) (h15 : zopt x15 (nnn A) = none) {Q K : Int32 → Prop} (hK : K 1) : ∀ r k, k + r = nnn A → W_L_isRefused_L328 A P m t e p0 x8 x15 x26 Q K (r + 1) 1 (nI k)
  | 0, k, hk => ⟨vm0, br_t (c_le h.m0 (by omega) (by have := h.1.1; omega)) hK⟩
  | r + 1, k, hk => by
    have hn := h.1.1
    have hkn : k < nnn A := by omega
    have ih := ref328 h (x8 := x8) (x26 := x26) ha hp h15 (Q := Q) hK r (k + 1) (by omega)
    have hz : zopt (nI k) (nnn A) = some k := zopt_s hkn (by omega)
    have hj : (k + 1) % nnn A < nnn A := Nat.mod_lt _ (by omega)
    have hzj : zopt (nI ((k + 1) % nnn A)) (nnn A) = some ((k + 1) % nnn A) := zopt_s hj (by omega)
    have hx : irm (nI k + 1) (m (ix 0)) = nI ((k + 1) % nnn A) := by
      rw [h.m0, nI_1]
      exact nI_irm (by omega) (by omega) (by omega)
    have q30 := rem30 ha hp
    have hr : a % 30 < 30 := Nat.mod_lt _ (by omega)
    have f1 : zrng (10000 + irm p0 30) = false := by
      rw [q30, show (10000 : Int32) = iI 10000 from rfl, iI_add]
      exact zrng_no (by rw [iI_toInt ⟨by omega, by omega⟩]; omega)
    have f2 : zrng ((-10000) - irm p0 30) = false := by
      rw [q30, show (-10000 : Int32) = iI (-10000) from rfl, iI_sub]
      exact zrng_no (by rw [iI_toInt ⟨by omega, by omega⟩]; omega)
    have f3 : ¬ (1 ≤ (0 - irm p0 30).toInt ∧ (0 - irm p0 30).toInt ≤ 5) := by
      rw [q30, show (0 : Int32) = iI 0 from rfl, iI_sub, iI_toInt ⟨by omega, by omega⟩]
      omega
    have fin := nm_e (P := fun x : Int32 => ∀ x172 : Int32, x172 = nI k + 1 → W_L_isRefused_L328 A P m t e p0 x8 x15 x26 Q K (r + 1) x x172) (e := 1) (nm_r (nI_1 k) ih)
    refine ⟨vm0, br_f (c_nle h.m0 hkn (by omega)) (br_f (by decide) ⟨vm0, ?_, nm_r hx ⟨fun v => zrng v = false, fun v hv => act_x (r1_A hz hv) (nt_f rfl (act_x (r2_B2 h15) (nt_f rfl (act_x (r2_A hz hz (Or.inl rfl)) (nt_f rfl ⟨fun v => zrng v = false, fun v hv => act_x (r2_A hz hzj (Or.inr (Or.inl hv))) (nt_f rfl ⟨fun v => ¬ (1 ≤ v.toInt ∧ v.toInt ≤ 5), fun v hv => act_x (r2_A hz hzj (Or.inr (Or.inr hv))) (nt_f rfl ⟨vm2, br_c (fun _ => fin) (fun c => act_x (r5_S hz ?_) (nt_f rfl fin))⟩), fun _ => by show ¬ (1 ≤ (6 : Int32).toInt ∧ (6 : Int32).toInt ≤ 5); decide, fun _ => ⟨by decide, f3⟩⟩), fun _ => ⟨by decide, f1⟩, fun _ => by decide⟩))))), fun _ => by decide, fun _ => ⟨by decide, f2⟩⟩⟩)⟩
    · rw [h.m0]
      exact nI_0n (by omega) (by omega)
    · have hp10 := h.2.1.1
      rw [h.m2] at c
      apply Classical.byContradiction
      intro q
      exact c (nI_lt (b := 10) (by omega) (by omega))
theorem ref533 (h : LI A P m t e) {x26 : Int64} {Q K : Int32 → Prop} (hK : K 1) : ∀ r k, k + r = nko A → W_L_isRefused_L533 A P m t e x26 Q K (r + 1) 1 (nI k)
  | 0, k, hk => ⟨vm1, br_t (c_le h.m1 (by omega) (by have := h.1.2.1; omega)) hK⟩
  | r + 1, k, hk => by
    have hn := h.2.2.1
    have hkn : k < nko A := by omega
    have ih := ref533 h (x26 := x26) (Q := Q) hK r (k + 1) (by omega)
    have hz : zopt (nI k) (nko A) = some k := zopt_s hkn (by omega)
    have fin := nm_e (P := fun x : Int32 => ∀ x172 : Int32, x172 = nI k + 1 → W_L_isRefused_L533 A P m t e x26 Q K (r + 1) x x172) (e := 1) (nm_r (nI_1 k) ih)
    refine ⟨vm1, br_f (c_nle h.m1 hkn (by omega)) (br_f (by decide) ⟨v5_4 (by omega), ?_⟩)⟩
    rw [h.e4 (show k ≤ 12 by omega)]
    cases hw : nwd A k
    · exact br_t rfl fin
    · exact br_f (by decide) (act_x (r9_S hz hw) (nt_f rfl (act_x (r10_S hz hw) (nt_f rfl (act_x (r11_S hz hw) (nt_f rfl (act_x (r12_S hz hw) (nt_f rfl fin))))))))
theorem isRefused_ok (h : LI A P m t e) {p0 : Int32} (hp0 : 0 ≤ p0.toInt) {Q : Int32 → Prop} (hQ : Q 1) : W_L_isRefused A P m t e p0 Q := by
  obtain ⟨a, ha, hp⟩ := nI_nn hp0
  obtain ⟨w, hw⟩ := all_ok h
  have hn := h.1.1
  have hk := h.2.2.1
  have q30 := rem30 ha hp
  have hr : a % 30 < 30 := Nat.mod_lt _ (by omega)
  have g0 : ∀ n : Nat, zopt ((-1) - irm p0 30) n = none := fun n => by
    rw [q30, show (-1 : Int32) = iI (-1) from rfl, iI_sub]
    exact iI_out ⟨by omega, by omega⟩ (by omega)
  have g1 : zopt (m (ix 0) + irm p0 30) (nnn A) = none := by
    rw [q30, h.m0, nI_iI, iI_add]
    exact iI_out ⟨by omega, by omega⟩ (by omega)
  have g2 : zopt (m (ix 1) + irm p0 30) (nko A) = none := by
    rw [q30, h.m1, nI_iI, iI_add]
    exact iI_out ⟨by omega, by omega⟩ (by omega)
  have g3 : ¬ (0 ≤ (1000000001 + irm p0 30).toInt ∧ (1000000001 + irm p0 30).toInt ≤ 1000000000) := by
    rw [q30, show (1000000001 : Int32) = iI 1000000001 from rfl, iI_add, iI_toInt ⟨by omega, by omega⟩]
    omega
  have g4 : ¬ (0 ≤ ((-1) - irm p0 30).toInt ∧ ((-1) - irm p0 30).toInt ≤ 1000000000) := by
    rw [q30, show (-1 : Int32) = iI (-1) from rfl, iI_sub, iI_toInt ⟨by omega, by omega⟩]
    omega
  have c1 : m (ix 1) < 14 := by
    rw [h.m1]
    exact nI_lt (b := 14) (by omega) (by omega)
  refine ⟨by decide, fun _ => True, fun x8 _ => nm_e ⟨fun v => zopt v (nnn A) = none, fun x15 h15 => nm_e ⟨fun v => zopt v (nko A) = none, fun x22 h22 => nm_e (hw _ (nm_e (act_x (r1_B h15) ⟨fun v => v = 1, fun v hv1 => nm_e (nm_e ⟨fun v => v = 1, nnn A + 1, by omega, fun v hv2 => nm_e ⟨fun v => v = 1, nko A + 1, by omega, fun v hv3 => ?_, ?_⟩, ?_⟩), nt_f rfl (act_x (r2_B h15) (nt_f rfl (act_x (r3_B h22) (nt_f rfl ⟨fun v => ¬ (0 ≤ v.toInt ∧ v.toInt ≤ 1000000000), fun v hb => act_x (r4_A hb) (nt_f rfl (act_x (r5_B h15) (nt_f rfl (act_x (r6_B h15) (nt_f rfl (act_x (r7_B h15) (nt_f rfl (act_x (r8_B h15) (nt_f rfl (act_x (r9_B h22) (nt_f rfl (act_x (r10_B h22) (nt_f rfl (act_x (r11_B h22) (nt_f rfl (act_x (r12_B h22) (nt_f rfl (act_x (r13_B h15) (nt_f rfl rfl))))))))))))))))))), fun _ => ⟨by decide, g3⟩, fun _ => ⟨by decide, g4⟩⟩))))⟩))), fun _ => ⟨vm1, by decide, g2⟩, fun _ => ⟨by decide, g0 _⟩⟩, fun _ => ⟨vm0, by decide, g1⟩, fun _ => ⟨by decide, g0 _⟩⟩, fun _ => trivial, fun _ => trivial⟩
  · rw [show v = 1 from hv3]
    exact br_f (by decide) ⟨vm0, True, fun _ => ⟨vm1, True, fun _ => hw _ (nt_f rfl ⟨rfl, hQ⟩), br_t c1 trivial⟩, br_c (fun _ => trivial) (fun c => act_x (r0_S (fun q => c (by rw [h.m0]; exact nI_lt (b := 6) q (by omega)))) (nt_f rfl trivial))⟩
  · rw [show v = 1 from hv2]
    exact ref533 h (K := fun v => v = 1) rfl (nko A) 0 (by omega)
  · rw [show v = 1 from hv1]
    exact ref328 h ha hp h15 (K := fun v => v = 1) rfl (nnn A) 0 (by omega)
end ZRF

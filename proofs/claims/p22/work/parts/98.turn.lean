/-! THE LAW'S TURNS -/
section ZTU
variable {A : zNt} {P : zPa} {m t e : Nat → Int32}
abbrev zK : Type := Int32 → zNt → zPa → (Nat → Int32) → (Nat → Int32) → (Nat → Int32) → Prop
set_option maxHeartbeats 1000000 in
theorem law667 (h : LI A P m t e) {g : Nat → Bool} (hB : zok (withG A g)) (hg : ∀ o, nwd A o = true → g o = true) {v32 x44 x58 x216 : Int32} {x222 : Int64} {K : zK} (hK : ∀ e', LI (withG A g) P m t e' → K (nI (zcn (fun o => !nwd A o && g o) (nko A))) (withG A g) P m t e') :
    ∀ r i, i + r = nko A → ∀ e' : Nat → Int32, EI A e g i e' → W_L_law_L667 v32 x44 x58 x216 x222 K (r + 1) (nI (zcn (fun o => !nwd A o && g o) i)) (nI i) (withG A g) P m t e'
  | 0, i, hi, e', hE => ⟨vm1, br_t (c_le h.m1 (by omega) (by have := h.2.2.1; omega)) (by
      have e1 : i = nko A := by omega
      rw [e1] at hE ⊢
      exact hK e' (LI_cl h hB hE))⟩
  | r + 1, i, hi, e', hE => by
    have h12 := h.2.2.1
    have hin : i < nko A := by omega
    have ih := law667 h hB hg (v32 := v32) (x44 := x44) (x58 := x58) (x216 := x216) (x222 := x222) (K := K) hK r (i + 1) (by omega)
    have e4 : e' (ix (5 * nI i + 4)) = bI (nwd A i) := by
      rw [e5_4, ix_nI (by omega), hE.2 i (by omega), if_neg (by omega)]
    have hstep : ∀ v : Int32, v = bI (g i) → EI A e g (i + 1) (upd e' (5 * i + 4) v) := fun v hv => by
      refine ⟨fun o c hc => ?_, fun o ho => ?_⟩
      · rw [upd_n _ _ (by omega)]
        exact hE.1 o c hc
      · by_cases c : o = i
        · rw [c, upd_s, if_pos (by omega)]
          exact hv
        · rw [upd_n _ _ (by omega), hE.2 o ho]
          by_cases c2 : o < i
          · rw [if_pos c2, if_pos (by omega)]
          · rw [if_neg c2, if_neg (by omega)]
    have hc1 : nI (zcn (fun o => !nwd A o && g o) i) + bI (!nwd A i && g i) = nI (zcn (fun o => !nwd A o && g o) (i + 1)) := by
      simp only [zcn]
      have hor : (!nwd A i && g i) = true ∨ (!nwd A i && g i) = false := by cases (!nwd A i && g i) <;> simp
      rcases hor with hh | hh
      · rw [if_pos hh, hh]
        exact nI_1 _
      · rw [if_neg (by rw [hh]; decide), hh]
        exact Int32.add_zero _
    refine ⟨vm1, br_f (c_nle h.m1 hin (by omega)) ⟨v5_4 (by omega), fun v A' P' m' t' e'' => v = bI (!nwd A i && g i) ∧ A' = withG A g ∧ P' = P ∧ m' = m ∧ t' = t ∧ e'' = e', fun v A1 P1 m1 t1 e1 hq => ?_, ?_⟩⟩
    · obtain ⟨rfl, rfl, rfl, rfl, rfl, rfl⟩ := hq
      refine nm_e ⟨fun v A' P' m' t' e'' => v = bI (!nwd A i && g i) ∧ A' = withG A g ∧ P' = P1 ∧ m' = m1 ∧ t' = t1 ∧ e'' = e1, fun v A2 P2 m2 t2 e2 hq => ?_, ?_⟩
      · obtain ⟨rfl, rfl, rfl, rfl, rfl, rfl⟩ := hq
        refine nm_r hc1 ?_
        have h54 : ix (5 * nI i + 4) = 5 * i + 4 := by rw [e5_4, ix_nI (by omega)]
        cases hh : (!nwd A i && g i)
        · refine br_t rfl ⟨v5_4 (by omega), v5_4 (by omega), nm_e (nm_r (nI_1 i) (ih _ ?_))⟩
          rw [h54]
          refine hstep _ ?_
          have : e2 (5 * i + 4) = bI (nwd A i) := by rw [← h54]; exact e4
          rw [this]
          cases hw : nwd A i
          · rw [hw] at hh
            have hgi : g i = false := by simpa using hh
            rw [hgi]
          · rw [hg i hw]
        · refine br_f (by decide) ⟨v5_4 (by omega), nm_e (nm_r (nI_1 i) (ih _ ?_))⟩
          rw [h54]
          refine hstep _ ?_
          have hgi : g i = true := by
            simp only [Bool.and_eq_true] at hh
            exact hh.2
          rw [hgi]
          rfl
      · cases hh : (!nwd A i && g i)
        · exact br_t rfl ⟨rfl, rfl, rfl, rfl, rfl, rfl⟩
        · exact br_f (by decide) ⟨rfl, rfl, rfl, rfl, rfl, rfl⟩
    · rw [e4]
      cases hw : nwd A i
      · refine nt_f rfl ?_
        cases hgi : g i
        · obtain ⟨v, h1, h2⟩ := a9_no hB (P := P) (y := 0) (c := 0) (d := 0) (show i < nko (withG A g) from hin) hgi
          exact act_y h1 (nt_t h2 ⟨rfl, rfl, rfl, rfl, rfl, rfl⟩)
        · have h1 : aAct (withG A g) P 9 (nI i) 0 0 0 = (zcS, withG A g, P) := r9_S (k := i) (zopt_s (show i < nko (withG A g) from hin) (by show nko A < 2 ^ 31; omega)) hgi
          exact act_y h1 (nt_f rfl ⟨rfl, rfl, rfl, rfl, rfl, rfl⟩)
      · exact nt_t (by decide) ⟨rfl, rfl, rfl, rfl, rfl, rfl⟩
theorem nI_ge' {a b : Nat} (h : a ≤ b) (hb : b < 2 ^ 31) : ¬ nI b < nI a := fun q => by
  have := (nI_ltI hb (by omega)).mp q
  omega
theorem zto (n j r : Nat) (hj : j < n) (hr : r < n - 1) : (j + 1 + r) % n < n ∧ (j + 1 + r) % n ≠ j := by
  refine ⟨Nat.mod_lt _ (by omega), fun q => ?_⟩
  rcases Nat.lt_or_ge (j + 1 + r) n with c | c
  · rw [Nat.mod_eq_of_lt c] at q
    omega
  · rw [Nat.mod_eq_sub_mod c, Nat.mod_eq_of_lt (by omega)] at q
    omega
set_option maxHeartbeats 4000000 in
theorem law67 {K : zK} (hK : ∀ A P m t e, K 1 A P m t e) : ∀ r i, i + r = 60 → ∀ (A : zNt) (P : zPa) (m t e : Nat → Int32), LI A P m t e → W_L_law_L67 K (r + 1) 1 (nI i) A P m t e
  | 0, i, hi, A, P, m, t, e, h => br_t (nI_le (a := 60) (by omega) (by omega)) (hK A P m t e)
  | r + 1, i, hi, A, P, m, t, e, h => by
    have ih := law67 hK r (i + 1) (by omega)
    refine br_f (nI_ge (b := 60) (by omega) (by omega)) (br_f (by decide) ⟨by rw [nI_toInt (by omega)]; omega, fun c hc => ?_⟩)
    obtain ⟨a, ha, rfl⟩ := nI_nn hc
    have hy := nI_div (b := 26) ha (by omega) (by omega)
    have ha2 : a / 26 < 2 ^ 31 := Nat.lt_of_le_of_lt (Nat.div_le_self _ _) ha
    have hz := nI_div (b := 6) ha2 (by omega) (by omega)
    have ha3 : a / 26 / 6 < 2 ^ 31 := Nat.lt_of_le_of_lt (Nat.div_le_self _ _) ha2
    refine nm_e ⟨fun _ A' P' m' t' e' => LI A' P' m' t' e', fun v56 A1 P1 m1 t1 e1 h1 => nm_e ⟨by decide, nm_r hy ⟨vm0, fun v A' P' m' t' e' => LI A' P' m' t' e' ∧ ∃ j, v = nI j ∧ j < 2 ^ 31 ∧ (0 < nnn A' → j < nnn A'), fun v2 A2 P2 m2 t2 e2 hq2 => ?_, ?_⟩⟩, ?_⟩
    · obtain ⟨h2, j, rfl, hj31, hj⟩ := hq2
      refine nm_e ⟨by decide, nm_r hz ⟨fun v A' P' m' t' e' => v = 1 ∧ LI A' P' m' t' e', fun v3 A3 P3 m3 t3 e3 hq3 => ?_, ?_⟩⟩
      · obtain ⟨rfl, h3⟩ := hq3
        have nx : ∀ x : Int32, x = 1 → ∀ x9 : Int32, x9 = nI i + 1 → W_L_law_L67 K (r + 1) x x9 A3 P3 m3 t3 e3 := nm_e (nm_r (nI_1 i) (ih _ _ _ _ _ h3))
        refine br_f (by decide) (areSound_ok h3 (by rw [nI_toInt ha2]; omega) (br_f (by decide) ⟨by decide, br_c (fun _ => nx) (fun _ => ⟨by decide, isRefused_ok h3 ?_ (br_f (by decide) nx)⟩)⟩))
        rw [show nI a / 3 = nI (a / 3) from nI_div (b := 3) ha (by omega) (by omega), nI_toInt (Nat.lt_of_le_of_lt (Nat.div_le_self _ _) ha)]
        omega
      · have hn2 := h2.1.1
        have hk2 := h2.2.2.1
        refine br_c (fun c2 => ⟨fun A' P' m' t' e' => LI A' P' m' t' e' ∧ (0 < nnn A' → j < nnn A'), fun A4 P4 m4 t4 e4 hq4 => ⟨fun A' P' m' t' e' => LI A' P' m' t' e' ∧ (0 < nnn A' → j < nnn A'), fun A5 P5 m5 t5 e5 hq5 => ⟨fun A' P' m' t' e' => LI A' P' m' t' e' ∧ (0 < nnn A' → j < nnn A'), fun A6 P6 m6 t6 e6 hq6 => ?_, ?_⟩, ?_⟩, ?_⟩) (fun c2 => ?_)
        · -- the path, its end, cleaning
          obtain ⟨h6, hj6⟩ := hq6
          have hn6 := h6.1.1
          have hk6 := h6.2.2.1
          have hp6 := h6.2.1
          refine nt_c (fun c16 => nt_c (fun c17 => br_c (fun _ => ⟨rfl, h6⟩) (fun _ => ⟨vm0, br_c (fun _ => ⟨rfl, h6⟩) (fun c0 => nm_e (nm_e ?_))⟩)) (fun c17 => nm_e (nm_e ⟨vm2, fun v A' P' m' t' e' => v = 1 ∧ LI A' P' (upd (upd m' (ix 2) 0) (ix 3) 0) t' e', fun v A7 P7 m7 t7 e7 hq7 => nm_e ⟨vm2, nm_e ⟨vm3, nm_e ⟨hq7.1, hq7.2⟩⟩⟩, nt_f h6.m2.symm (nm_e (nm_e (nt_f rfl (nm_e (nt_f rfl ⟨rfl, LI_pa h6 (P' := (0, 0, 0, 0)) ⟨Nat.zero_le _, fun q => absurd q (by decide), fun _ => rfl⟩ rfl⟩)))))⟩))) (fun c16 => ⟨by decide, ?_⟩)
          · -- go
            have hn0 : 0 < nnn A6 := by
              apply Classical.byContradiction
              intro q
              exact c0 (by rw [h6.m0]; exact nI_le (b := 0) (by omega) (by omega))
            have hjn := hj6 hn0
            have hz0 : zopt (nI j) (nnn A6) = some j := zopt_s hjn (by omega)
            have hb0 : ¬ 0 < m6 (ix 2) → P6.1 = 0 := fun cz => by
              apply Classical.byContradiction
              intro q
              exact cz (by rw [h6.m2]; exact nI_lt (a := 0) (by omega) (by have := hp6.1; omega))
            have hO : (aAct A6 P6 5 (nI j) 0 0 0 = (zcS, A6, P6) ∧ 0 < P6.1) ∨ ∃ P' : zPa, aAct A6 P6 5 (nI j) 0 0 0 = (lI (P6.1 + 1 : Nat), A6, P') ∧ pok A6 P' ∧ P'.1 = P6.1 + 1 ∧ (P6.1 = 0 → P'.2.2.2 = 0 ∧ aClosed P' = true) ∧ P6.1 ≤ 9 := by
              have hO : aAct A6 P6 5 (nI j) 0 0 0 = zfin (oGo A6 P6 (nI j)) zcB zcS 0 := aAct_5
              unfold oGo at hO
              rw [hz0] at hO
              dsimp only at hO
              by_cases c10 : P6.1 = 10
              · rw [if_pos c10] at hO
                exact Or.inl ⟨hO, by omega⟩
              · rw [if_neg c10] at hO
                by_cases cb : P6.1 = 0
                · rw [if_pos cb] at hO
                  have hs0 := hp6.2.2 cb
                  refine Or.inr ⟨(1, j, j, P6.2.2.2), by rw [hO, cb]; rfl, ⟨by show (1 : Nat) ≤ 10; decide, fun _ => ⟨hjn, hjn⟩, fun q => absurd q (by show ¬ (1 : Nat) = 0; decide)⟩, by rw [cb], fun _ => ⟨hs0, ?_⟩, by omega⟩
                  exact decide_eq_true ⟨by show 0 < 1; decide, rfl, hs0⟩
                · rw [if_neg cb] at hO
                  by_cases cn : nbt A6 P6.2.2.1 j = nko A6
                  · rw [if_pos cn] at hO
                    exact Or.inl ⟨hO, by omega⟩
                  · rw [if_neg cn] at hO
                    have hp2 := hp6.2.1 (by omega)
                    exact Or.inr ⟨_, hO, ⟨by have := hp6.1; show P6.1 + 1 ≤ 10; omega, fun _ => ⟨hp2.1, hjn⟩, fun q => absurd q (Nat.succ_ne_zero _)⟩, rfl, fun q => absurd q cb, by have := hp6.1; omega⟩
            rcases hO with ⟨ha1, hp⟩ | ⟨P', ha1, hpo, hlen, hbeg, h9⟩
            · refine act_y ha1 (nm_e ⟨fun v A' P' m' t' e' => v = 1 ∧ A' = A6 ∧ P' = P6 ∧ m' = m6 ∧ t' = t6 ∧ e' = e6, fun v A7 P7 m7 t7 e7 hq7 => nm_e ⟨vm2, fun w A' P' m' t' e' => w = 0 ∧ v = 1 ∧ LI A' P' (upd (upd m' (ix 2) (m7 (ix 2) + 0)) (ix 3) P'.2.2.2) t' e', fun v9 A8 P8 m8 t8 e8 hq8 => ⟨vm2, nm_e (nm_e ⟨vm3, nm_e ⟨hq8.2.1, by rw [hq8.1]; exact hq8.2.2⟩⟩)⟩, br_f (by decide) ⟨rfl, hq7.1, ?_⟩⟩, nt_f rfl ⟨vm2, br_f (by rw [h6.m2]; exact nI_ge (a := 0) hp (by have := hp6.1; omega)) (nm_e (nt_f rfl ⟨rfl, rfl, rfl, rfl, rfl, rfl⟩))⟩⟩)
              obtain ⟨-, rfl, rfl, rfl, rfl, rfl⟩ := hq7
              exact LI_pa h6 hp6 (by rw [Int32.add_zero]; exact h6.m2)
            · refine act_y ha1 (nm_e ⟨fun v A' P'' m' t' e' => v = 1 ∧ A' = A6 ∧ P'' = P' ∧ m' = m6 ∧ t' = t6 ∧ e' = e6, fun v A7 P7 m7 t7 e7 hq7 => nm_e ⟨vm2, fun w A' P' m' t' e' => w = 1 ∧ v = 1 ∧ LI A' P' (upd (upd m' (ix 2) (m7 (ix 2) + 1)) (ix 3) P'.2.2.2) t' e', fun v9 A8 P8 m8 t8 e8 hq8 => ⟨vm2, nm_e (nm_e ⟨vm3, nm_e ⟨hq8.2.1, by rw [hq8.1]; exact hq8.2.2⟩⟩)⟩, br_t ?_ ⟨rfl, hq7.1, ?_⟩⟩, nt_t ?_ ⟨vm2, nt_f ?_ ⟨vm2, br_c (fun _ => ⟨rfl, rfl, rfl, rfl, rfl, rfl⟩) (fun cz => nm_e (nt_f (hbeg (hb0 cz)).1 (nm_e (br_f ?_ ⟨rfl, rfl, rfl, rfl, rfl, rfl⟩))))⟩⟩⟩)
              · rw [lI_0, lI_le ⟨by omega, by omega⟩ ⟨by omega, by omega⟩]
                omega
              · obtain ⟨-, rfl, rfl, rfl, rfl, rfl⟩ := hq7
                exact LI_pa h6 hpo (by rw [h6.m2, nI_1, hlen])
              · rw [show (-161300000000000000 : Int64) = lI (-161300000000000000) from rfl, lI_eq ⟨by omega, by omega⟩ ⟨by omega, by omega⟩]
                omega
              · rw [h6.m2, nI_1, nI_l64 (by omega)]
              · rw [(hbeg (hb0 cz)).2]
                decide
          · -- clean
            have hz5 : irm (nI (a / 26 / 6)) 5000 = nI (a / 26 / 6 % 5000) := nI_irm (b := 5000) ha3 (by omega) (by omega)
            have hb : a / 26 / 6 % 5000 < 5000 := Nat.mod_lt _ (by omega)
            have hbt : (nI (a / 26 / 6 % 5000)).toInt = ((a / 26 / 6 % 5000 : Nat) : Int) := nI_toInt (by omega)
            obtain ⟨g, g1, g2, g3, g4, g5⟩ := aCl_spec (b := ((a / 26 / 6 % 5000 : Nat) : Int)) 14 A6 h6.1 (Nat.le_trans (zcn_le _ _) (by omega))
            have hcl : ∀ B : zNt, aAct B P6 4 (nI (a / 26 / 6 % 5000)) 0 0 0 = (lI (aCl ((a / 26 / 6 % 5000 : Nat) : Int) 14 B).1, (aCl ((a / 26 / 6 % 5000 : Nat) : Int) 14 B).2, P6) := fun B => by
              rw [aAct_4]
              unfold oClean
              rw [hbt, if_pos ⟨by omega, by omega⟩]
              rfl
            have hc1 := hcl A6
            rw [g1, g3] at hc1
            have hc2 := hcl (withG A6 g)
            rw [aCl_again g5] at hc2
            have hcnt : zcn (fun o => !nwd A6 o && g o) (nko A6) ≤ nko A6 := zcn_le _ _
            refine nm_r hz5 (act_y hc1 (nm_e (nm_e (nm_e ⟨fun v A' P' m' t' e' => v = nI (zcn (fun o => !nwd A6 o && g o) (nko A6)) ∧ A' = withG A6 g ∧ P' = P6 ∧ LI A' P' m' t' e', nko A6 + 1, by omega, fun v A7 P7 m7 t7 e7 hq7 => ?_, ?_⟩))))
            · obtain ⟨rfl, rfl, rfl, h7⟩ := hq7
              refine nt_f (nI_l64 (by omega)).symm (nm_e ⟨fun A' P' m' t' e' => A' = withG A6 g ∧ P' = P7 ∧ LI A' P' m' t' e', fun A8 P8 m8 t8 e8 hq8 => ?_, ?_⟩)
              · obtain ⟨rfl, rfl, h8⟩ := hq8
                exact act_y hc2 (nt_f rfl (nm_e ⟨rfl, h8⟩))
              · refine br_c (fun _ => ⟨rfl, rfl, h7⟩) (fun cw => nm_e ?_)
                rcases aWst_or (A := withG A6 g) (nko (withG A6 g)) with ⟨w1, -⟩ | ⟨o, w1, w2, w3, w4, w5⟩
                · rw [w1] at cw
                  exact absurd (by decide) cw
                · have hw5 : aScr (withG A6 g) o ≤ ((a / 26 / 6 % 5000 : Nat) : Int) := by
                    have q : (aWst (withG A6 g) (nko A6)).1 = (o : Int) := w2
                    rcases g5 with q5 | q5
                    · omega
                    · rw [q] at q5
                      exact q5
                  refine ⟨o, w1, by rw [w2]; exact (nI_iI o).symm, w3, nm_e (br_f ?_ ⟨rfl, rfl, h7⟩)⟩
                  rw [nI_l64 (by omega), lI_lt ⟨by omega, by omega⟩ ⟨by omega, by omega⟩]
                  omega
            · exact law667 h6 g4 g2 (fun e' he' => ⟨rfl, rfl, rfl, he'⟩) (nko A6) 0 (by omega) e6 ⟨fun _ _ _ => rfl, fun o ho => by rw [if_neg (by omega)]; exact h6.2.2.2.2.2.2.2.2.2 o ho⟩
        · -- withdraw
          obtain ⟨h5, hj5⟩ := hq5
          have hn5 := h5.1.1
          have hk5 := h5.2.2.1
          refine br_c (fun _ => ⟨h5, hj5⟩) (fun _ => br_c (fun _ => ⟨h5, hj5⟩) (fun _ => ⟨vm1, br_c (fun _ => ⟨h5, hj5⟩) (fun c0 => ?_)⟩))
          have hk0 : 0 < nko A5 := by
            apply Classical.byContradiction
            intro q
            exact c0 (by rw [h5.m1]; exact nI_le (b := 0) (by omega) (by omega))
          have ho : a / 26 / 6 % nko A5 < nko A5 := Nat.mod_lt _ hk0
          have hx : irm (nI (a / 26 / 6)) (m5 (ix 1)) = nI (a / 26 / 6 % nko A5) := by
            rw [h5.m1]
            exact nI_irm ha3 hk0 (by omega)
          generalize a / 26 / 6 % nko A5 = o at ho hx
          have hzo : zopt (nI o) (nko A5) = some o := zopt_s ho (by omega)
          refine ⟨vm1, by rw [h5.m1]; exact nI_0n (by omega) hk0, nm_r hx ⟨by decide, by decide, fun v A' P' m' t' e' => (∃ b : Bool, v = bI b) ∧ A' = A5 ∧ P' = P5 ∧ m' = m5 ∧ t' = t5 ∧ e' = e5, fun v A7 P7 m7 t7 e7 hq7 => ?_, fun _ => ⟨⟨false, rfl⟩, rfl, rfl, rfl, rfl, rfl⟩, fun _ => ⟨⟨true, rfl⟩, rfl, rfl, rfl, rfl, rfl⟩⟩⟩
          obtain ⟨⟨b, rfl⟩, rfl, rfl, rfl, rfl, rfl⟩ := hq7
          have hdb : decide (bI b = 1) = b := by cases b <;> rfl
          have ha1 : aAct A7 P7 3 (nI o) (bI b) 0 0 = (if nwd A7 o = true then 1 else 0, setWd A7 o b, P7) := by
            rw [aAct_3, hdb]
            unfold oWithdraw
            rw [hzo]
            rfl
          have ha2' : aAct (setWd A7 o b) P7 3 (nI o) (bI b) 0 0 = (if b = true then 1 else 0, setWd (setWd A7 o b) o b, P7) := by
            have hzo2 : zopt (nI o) (nko (setWd A7 o b)) = some o := hzo
            have hwo : nwd (setWd A7 o b) o = b := zup_s _ _ _
            rw [aAct_3, hdb]
            unfold oWithdraw
            rw [hzo2]
            dsimp only
            rw [hwo]
            rfl
          have h54 : ix (5 * nI o + 4) = 5 * o + 4 := by rw [e5_4, ix_nI (by omega)]
          refine nm_e (act_y ha1 ⟨v5_4 (by omega), fun v A' P' m' t' e' => v = 1 ∧ LI A' P' m' t' (upd e' (5 * o + 4) (bI b)), fun v A8 P8 m8 t8 e8 hq8 => nm_e ⟨v5_4 (by omega), nm_e ⟨hq8.1, by rw [h54]; exact hq8.2⟩⟩, nt_f ?_ (act_y ha2' (nt_f ?_ ⟨rfl, LI_wd h5 ho b rfl⟩))⟩)
          · rw [h5.e4 (show o ≤ 12 by omega)]
            cases nwd A7 o <;> rfl
          · cases b <;> rfl
        · -- observe
          obtain ⟨h4, hj4⟩ := hq4
          have hn4 := h4.1.1
          have hk4 := h4.2.2.1
          refine br_c (fun _ => ⟨h4, hj4⟩) (fun _ => ⟨vm0, br_c (fun _ => ⟨h4, hj4⟩) (fun c0 => ⟨vm1, br_c (fun _ => ⟨h4, hj4⟩) (fun c12 => ?_)⟩)⟩)
          have hn1 : 1 < nnn A4 := by
            apply Classical.byContradiction
            intro q
            exact c0 (by rw [h4.m0]; exact nI_le (b := 1) (by omega) (by omega))
          have hk12 : nko A4 < 12 := by
            apply Classical.byContradiction
            intro q
            exact c12 (by rw [h4.m1]; exact nI_le (a := 12) (by omega) (by omega))
          have hjn := hj4 (by omega)
          have hm1 : m4 (ix 0) - 1 = nI (nnn A4 - 1) := by
            rw [h4.m0, nI_iI, show (1 : Int32) = iI 1 from rfl, iI_sub, nI_iI]
            exact congrArg iI (by omega)
          have hr : a / 26 / 6 % (nnn A4 - 1) < nnn A4 - 1 := Nat.mod_lt _ (by omega)
          have hx : irm ((nI j + 1) + irm (nI (a / 26 / 6)) (m4 (ix 0) - 1)) (m4 (ix 0)) = nI ((j + 1 + a / 26 / 6 % (nnn A4 - 1)) % nnn A4) := by
            rw [hm1, nI_irm ha3 (by omega) (by omega), nI_1, nI_add, h4.m0]
            exact nI_irm (by omega) (by omega) (by omega)
          obtain ⟨to1, to2⟩ := zto (nnn A4) j _ hjn hr
          generalize (j + 1 + a / 26 / 6 % (nnn A4 - 1)) % nnn A4 = to' at to1 to2 hx
          have hz1 : zopt (nI j) (nnn A4) = some j := zopt_s hjn (by omega)
          have hz2 : zopt (nI to') (nnn A4) = some to' := zopt_s to1 (by omega)
          have hdv : ∀ q : Nat, 0 < q → a / 26 / 6 / q < 2 ^ 31 := fun q _ => Nat.lt_of_le_of_lt (Nat.div_le_self _ _) ha3
          refine ⟨vm0, by rw [hm1]; exact nI_0n (by omega) (by omega), vm0, by rw [h4.m0]; exact nI_0n (by omega) (by omega), nm_r hx ⟨by decide, by decide, fun v A' P' m' t' e' => (∃ d : Int, v = iI d ∧ -9999 ≤ d ∧ d ≤ 9999) ∧ A' = A4 ∧ P' = P4 ∧ m' = m4 ∧ t' = t4 ∧ e' = e4, fun v A7 P7 m7 t7 e7 hq7 => ?_, fun _ => ⟨by decide, by decide, ⟨((a / 26 / 6 / 20 % 300 : Nat) : Int) - 150, ?_, ?_, ?_⟩, rfl, rfl, rfl, rfl, rfl⟩, fun _ => ⟨by decide, by decide, ⟨((a / 26 / 6 / 20 % 19999 : Nat) : Int) - 9999, ?_, ?_, ?_⟩, rfl, rfl, rfl, rfl, rfl⟩⟩⟩
          · obtain ⟨⟨d, rfl, hd⟩, rfl, rfl, rfl, rfl, rfl⟩ := hq7
            have hw5 : a / 26 / 6 / 7 % 5 < 5 := Nat.mod_lt _ (by omega)
            have hwt : (1 : Int32) + irm (nI (a / 26 / 6) / 7) 5 = iI (((a / 26 / 6 / 7 % 5 : Nat) : Int) + 1) := by
              rw [show nI (a / 26 / 6) / 7 = nI (a / 26 / 6 / 7) from nI_div (b := 7) ha3 (by omega) (by omega), show irm (nI (a / 26 / 6 / 7)) 5 = nI (a / 26 / 6 / 7 % 5) from nI_irm (b := 5) (hdv 7 (by omega)) (by omega) (by omega), nI_iI, show (1 : Int32) = iI 1 from rfl, iI_add]
              exact congrArg iI (by omega)
            generalize a / 26 / 6 / 7 % 5 = w at hw5 hwt
            have h50 : (5 : Int32) * m7 (ix 1) = nI (5 * nko A7) := by rw [h4.m1]; exact e5_0 _
            have i0 : ix (nI (5 * nko A7)) = 5 * nko A7 := ix_nI (by omega)
            have n1 : nI (5 * nko A7) + 1 = nI (5 * nko A7 + 1) := nI_add _ 1
            have n2 : nI (5 * nko A7) + 2 = nI (5 * nko A7 + 2) := nI_add _ 2
            have n3 : nI (5 * nko A7) + 3 = nI (5 * nko A7 + 3) := nI_add _ 3
            have i1 : ix (nI (5 * nko A7) + 1) = 5 * nko A7 + 1 := by rw [n1]; exact ix_nI (by omega)
            have i2 : ix (nI (5 * nko A7) + 2) = 5 * nko A7 + 2 := by rw [n2]; exact ix_nI (by omega)
            have i3 : ix (nI (5 * nko A7) + 3) = 5 * nko A7 + 3 := by rw [n3]; exact ix_nI (by omega)
            have ha1 : aAct A7 P7 2 (nI j) (nI to') (iI d) (iI ((w : Int) + 1)) = (lI (nko A7), addOb A7 j to' d ((w : Int) + 1), P7) := by
              have b1 : zB3 d := ⟨by omega, by omega⟩
              have b2 : zB3 ((w : Int) + 1) := ⟨by omega, by omega⟩
              rw [aAct_2]
              unfold oObserve
              rw [hz1, hz2]
              dsimp only
              have hzr : zrng (iI d) = true := (zrng_iff _).mpr (by rw [iI_toInt b1]; exact hd)
              rw [iI_toInt b2, iI_toInt b1, hzr, if_neg (fun q => by
                rcases q with q | q | q
                · exact to2 q.symm
                · cases q
                · exact q ⟨by omega, by omega⟩), if_pos (by omega)]
              rfl
            have hwr : (1 : Int) ≤ (w : Int) + 1 ∧ (w : Int) + 1 ≤ 5 := ⟨by omega, by omega⟩
            have hpa := prt_add (A := A7) (f := j) (t := to') (d := d) (w := (w : Int) + 1) h4.1
            have htr := trees_add (A := A7) h4.1 (by omega) hjn to1 (fun q => to2 q.symm) hd hwr
            have hB := addOb_ok h4.1 (by omega) hjn to1 (fun q => to2 q.symm) hd hwr
            have hl1 := (pT_lim h4.1 (w := 14) hjn)
            have hl2 := (pT_lim hB (w := 14) (show j < nnn (addOb A7 j to' d ((w : Int) + 1)) from hjn))
            have hpr : nprt A7 ≤ nnn A7 := zcn_le _ _
            have hli := LI_ob h4 hk12 hjn to1 (fun q => to2 q.symm) hd hwr (v3 := iI ((w : Int) + 1))
            refine nm_e ⟨vm1, nm_r h50 (nm_e (nm_e ⟨j, hjn, rfl, nm_e (nm_e ⟨vp_in_nI (by omega) (by omega), nm_e ⟨by rw [n1]; exact vp_in_nI (by omega) (by omega), nm_e ⟨by rw [n2]; exact vp_in_nI (by omega) (by omega), nm_e ⟨by decide, by decide, by rw [n3]; exact vp_in_nI (by omega) (by omega), nm_e ?_⟩⟩⟩⟩)⟩))⟩
            rw [i0, i1, i2, i3, upd_s, hwt]
            refine ⟨by rw [n3]; exact vp_in_nI (by omega) (by omega), act_y ha1 ⟨vm1, fun _ _ _ _ _ => False, fun _ _ _ _ _ hF => hF.elim, nt_f (by rw [h4.m1]; exact (nI_l64 (by omega)).symm) (nm_e (br_f (nI_ge' hpa.1 (by omega)) (nm_e (br_f ?_ ⟨j, hjn, rfl, nm_e (br_f ?_ (nm_e ⟨vm1, vm1, nm_e ⟨rfl, hli⟩⟩))⟩))))⟩⟩
            · rw [nI_iI, nI_iI, show (1 : Int32) = iI 1 from rfl, iI_sub, iI_lt ⟨by omega, by omega⟩ ⟨by omega, by omega⟩]
              omega
            · rw [lI_lt ⟨by omega, by omega⟩ ⟨by omega, by omega⟩]
              omega
          · rw [show nI (a / 26 / 6) / 20 = nI (a / 26 / 6 / 20) from nI_div (b := 20) ha3 (by omega) (by omega), show irm (nI (a / 26 / 6 / 20)) 300 = nI (a / 26 / 6 / 20 % 300) from nI_irm (b := 300) (hdv 20 (by omega)) (by omega) (by omega), nI_iI, show (150 : Int32) = iI 150 from rfl, iI_sub]
          · omega
          · have : a / 26 / 6 / 20 % 300 < 300 := Nat.mod_lt _ (by omega)
            omega
          · rw [show nI (a / 26 / 6) / 20 = nI (a / 26 / 6 / 20) from nI_div (b := 20) ha3 (by omega) (by omega), show irm (nI (a / 26 / 6 / 20)) 19999 = nI (a / 26 / 6 / 20 % 19999) from nI_irm (b := 19999) (hdv 20 (by omega)) (by omega) (by omega), nI_iI, show (9999 : Int32) = iI 9999 from rfl, iI_sub]
          · omega
          · have : a / 26 / 6 / 20 % 19999 < 19999 := Nat.mod_lt _ (by omega)
            omega
        · -- datum
          refine nt_c (fun _ => ⟨h2, hj⟩) (fun _ => ⟨vm0, br_c (fun _ => ⟨h2, hj⟩) (fun c0 => ?_)⟩)
          have hn0 : 0 < nnn A2 := by
            apply Classical.byContradiction
            intro q
            exact c0 (by rw [h2.m0]; exact nI_le (b := 0) (by omega) (by omega))
          have hjn := hj hn0
          have hz1 : zopt (nI j) (nnn A2) = some j := zopt_s hjn (by omega)
          have hm : a / 26 / 6 % 19999 < 19999 := Nat.mod_lt _ (by omega)
          have hx : irm (nI (a / 26 / 6)) 19999 - 9999 = iI (((a / 26 / 6 % 19999 : Nat) : Int) - 9999) := by
            rw [show irm (nI (a / 26 / 6)) 19999 = nI (a / 26 / 6 % 19999) from nI_irm (b := 19999) ha3 (by omega) (by omega), nI_iI, show (9999 : Int32) = iI 9999 from rfl, iI_sub]
          have hd : -9999 ≤ ((a / 26 / 6 % 19999 : Nat) : Int) - 9999 ∧ ((a / 26 / 6 % 19999 : Nat) : Int) - 9999 ≤ 9999 := ⟨by omega, by omega⟩
          generalize ((a / 26 / 6 % 19999 : Nat) : Int) - 9999 = d at hx hd
          have hm2 : a / 26 / 6 % 2 < 2 := Nat.mod_lt _ (by omega)
          have hx2 : irm (nI (a / 26 / 6)) 2 = bI (decide (a / 26 / 6 % 2 = 1)) := by
            rw [show irm (nI (a / 26 / 6)) 2 = nI (a / 26 / 6 % 2) from nI_irm (b := 2) ha3 (by omega) (by omega)]
            rcases (show a / 26 / 6 % 2 = 0 ∨ a / 26 / 6 % 2 = 1 by omega) with q | q <;> rw [q] <;> rfl
          generalize decide (a / 26 / 6 % 2 = 1) = b at hx2
          have hdb : decide (bI b = 1) = b := by cases b <;> rfl
          have ha1 : aAct A2 P2 1 (nI j) (iI d) (bI b) 0 = (if ntl A2 j = true then 1 else 0, setTl A2 j b d, P2) := by
            have b1 : zB3 d := ⟨by omega, by omega⟩
            have hzr : zrng (iI d) = true := (zrng_iff _).mpr (by rw [iI_toInt b1]; exact hd)
            rw [aAct_1, hdb]
            unfold oDatum
            rw [hz1]
            dsimp only
            rw [hzr, if_neg (fun q => by cases q.2), iI_toInt b1]
            rfl
          have j0 : ix (2 * nI j) = 2 * j := by rw [e2_0]; exact ix_nI (by omega)
          have j1 : ix (2 * nI j + 1) = 2 * j + 1 := by rw [e2_1]; exact ix_nI (by omega)
          have w0 : vp_in (2 * nI j) 12 := by rw [e2_0]; exact vp_in_nI (by omega) (by omega)
          have w1 : vp_in (2 * nI j + 1) 12 := by rw [e2_1]; exact vp_in_nI (by omega) (by omega)
          refine ⟨by decide, nm_r hx ⟨by decide, ?_⟩⟩
          rw [hx2]
          refine act_y ha1 ⟨w0, fun v A' P' m' t' e' => v = 1 ∧ A' = setTl A2 j b d ∧ P' = P2 ∧ m' = m2 ∧ t' = t2 ∧ e' = e2, fun v A7 P7 m7 t7 e7 hq7 => nm_e ⟨by decide, w0, nm_e ⟨by decide, ?_⟩⟩, nt_f ?_ ⟨rfl, rfl, rfl, rfl, rfl, rfl⟩⟩
          · obtain ⟨rfl, rfl, rfl, rfl, rfl, rfl⟩ := hq7
            rw [j0, j1]
            refine nt_c (fun cb => ⟨w1, nm_e ⟨rfl, LI_dat h2 hjn (fun _ => hd) rfl ?_⟩⟩) (fun cb => ⟨w1, nm_e ⟨rfl, LI_dat h2 hjn (fun _ => hd) rfl ?_⟩⟩)
            · cases b
              · rfl
              · exact absurd rfl cb
            · cases b
              · exact absurd cb (by decide)
              · rfl
          · rw [j0, (h2.2.2.2.2.2.2.2.1 j (by omega)).1]
            cases ntl A2 j <;> rfl
        · -- station
          by_cases h6 : nnn A2 < 6
          · have ha1 : aAct A2 P2 0 0 0 0 0 = (lI (nnn A2), addSt A2, P2) := by
              rw [aAct_0]
              unfold oStation
              rw [if_pos h6]
              rfl
            refine act_y ha1 (nm_e ⟨vm0, fun v A' P' m' t' e' => v = lI (nnn A2) ∧ LI A' P' (upd m' (ix 0) (m' (ix 0) + 1)) t' e', fun v A7 P7 m7 t7 e7 hq7 => ⟨fun w A' P' m' t' e' => w = 1 ∧ LI A' P' (upd m' (ix 0) (m' (ix 0) + 1)) t' e', fun w A8 P8 m8 t8 e8 hq8 => nm_e ⟨vm0, br_t ?_ ⟨vm0, nm_e ⟨hq8.1, hq8.2⟩⟩⟩, nt_f hq7.1.symm ⟨rfl, hq7.2⟩⟩, nt_t ?_ ⟨vm0, ?_, LI_st h2 h6⟩⟩)
            · rw [lI_0, lI_le ⟨by omega, by omega⟩ ⟨by omega, by omega⟩]
              omega
            · rw [h2.m0]
              intro q
              have := (nI_eq (a := nnn A2) (b := 6) (by omega) (by omega)).mp q
              omega
            · rw [h2.m0, nI_l64 (by omega)]
          · have ha1 : aAct A2 P2 0 0 0 0 0 = (zcS, A2, P2) := r0_S h6
            refine act_y ha1 (nm_e ⟨vm0, fun v A' P' m' t' e' => v = zcS ∧ LI A' P' (upd m' (ix 0) (m' (ix 0) + 0)) t' e', fun v A7 P7 m7 t7 e7 hq7 => ⟨fun w A' P' m' t' e' => w = 1 ∧ LI A' P' (upd m' (ix 0) (m' (ix 0) + 0)) t' e', fun w A8 P8 m8 t8 e8 hq8 => nm_e ⟨vm0, br_f (by decide) ⟨vm0, nm_e ⟨hq8.1, hq8.2⟩⟩⟩, nt_f hq7.1.symm ⟨rfl, hq7.2⟩⟩, nt_f ?_ ⟨rfl, ?_⟩⟩)
            · rw [h2.m0, show nnn A2 = 6 by omega]
              rfl
            · rw [upd_id m2 (Int32.add_zero _)]
              exact h2
    · refine nt_c (fun c0 => ?_) (fun c0 => ⟨h1, 0, rfl, by omega, fun q => q⟩)
      have hn1 := h1.1.1
      have hn0 : 0 < nnn A1 := by
        apply Classical.byContradiction
        intro q
        exact c0 (by rw [h1.m0, show nnn A1 = 0 by omega]; rfl)
      refine ⟨vm0, by rw [h1.m0]; exact nI_0n (by omega) hn0, h1, a / 26 % nnn A1, ?_, ?_, fun _ => Nat.mod_lt _ hn0⟩
      · rw [h1.m0]
        exact nI_irm ha2 hn0 (by omega)
      · exact Nat.lt_of_le_of_lt (Nat.mod_le _ _) ha2
    · exact br_c (fun _ => br_c (fun _ => ⟨by decide, h⟩) (fun _ => h)) (fun _ => h)
end ZTU

/-! THE CLASS DOES SO (2) -/
section ZOPS2
theorem X_go {A : zNt} {P : zPa} {s : zS} (h : ST A P s) (x : Int32) : W_X4_go s x (fun r => okX (oGo A P x) r.toInt64) (exX (oGo A P x) ["java/lang/IndexOutOfBoundsException", "java/lang/IllegalStateException"]) := by
  have hn := h.1.1
  have hk := h.1.2.1
  have hp := h.2.1.1
  unfold oGo
  refine W_needSt h x _ _ (fun j hj e ho => ?_) (fun ho => by rw [ho]; exact ⟨0, rfl, rfl, h⟩)
  rw [ho]
  subst e
  dsimp only
  obtain ⟨q8, q9, q11⟩ := h.2.2.2
  rw [q8]
  refine br_c (fun c => ?_) (fun c => ?_)
  · have c10 : P.1 < 10 := (nI_ltI (by omega) (by omega)).mp c
    rw [if_neg (show ¬ P.1 = 10 by omega)]
    refine nt_c (fun d => ?_) (fun d => ?_)
    · have d0 : ¬ P.1 = 0 := fun q => d (by rw [q]; rfl)
      rw [if_neg d0]
      obtain ⟨g9, g10⟩ := q9 (by omega)
      obtain ⟨b1, b2⟩ := h.2.1.2.1 (by omega)
      rw [g10]
      refine W_lowestBetween h.1 h.2.2.1.1 (by omega) (by omega) _ (fun hb => nm_e ?_) (fun hb => nm_e ?_)
      · have hne : ¬ nI (nbt A P.2.2.1 j) = -1 := fun q => by
          have := congrArg Int32.toInt q
          rw [nI_toInt (by omega)] at this
          have e2 : (-1 : Int32).toInt = -1 := rfl
          omega
        rw [if_neg (show ¬ nbt A P.2.2.1 j = nko A by omega)]
        refine nt_t hne (W_differenceFrom h.1 h.2.2.1.1 (by omega) hb _ (nm_e (nm_e (nm_e ?_))))
        have e8 : gI (sI (sI s 10 (nI j)) 11 ((gI (sI s 10 (nI j)) 11) + iI (if nfr A (nbt A P.2.2.1 j) = P.2.2.1 then ndf A (nbt A P.2.2.1 j) else - ndf A (nbt A P.2.2.1 j)))) 8 + 1 = nI (P.1 + 1) := by
          show gI s 8 + 1 = _
          rw [q8, nI_1]
        have hS : zSm [8, 10, 11] [] [] [] s (sI (sI (sI s 10 (nI j)) 11 ((gI (sI s 10 (nI j)) 11) + iI (if nfr A (nbt A P.2.2.1 j) = P.2.2.1 then ndf A (nbt A P.2.2.1 j) else - ndf A (nbt A P.2.2.1 j)))) 8 (nI (P.1 + 1))) := ((((zSm.rf s).tI (by simp) _).tI (by simp) _).tI (by simp) _)
        rw [e8]
        refine ⟨rfl, ?_, h.1, ⟨by show P.1 + 1 ≤ 10; omega, fun _ => ⟨b1, hj⟩, fun q => by have : P.1 + 1 = 0 := q; omega⟩, h.2.2.1.sm hS ⟨by simp, by simp⟩ ⟨by simp, by simp, by simp, by simp, by simp, by simp, by simp⟩ (by simp), rfl, fun _ => ⟨g9, rfl⟩, ?_⟩
        · show (nI (P.1 + 1)).toInt64 = _
          exact nI_l64 (by omega)
        · show gI s 11 + _ = P.2.2.2 + _
          rw [q11]
      · rw [if_pos hb]
        exact nt_f rfl ⟨1, rfl, rfl, h⟩
    · have d0 : P.1 = 0 := (nI_eq (b := 0) (by omega) (by omega)).mp d
      rw [if_pos d0]
      refine nm_e (nm_e (nm_e ?_))
      have hS : zSm [8, 9, 10] [] [] [] s (sI (sI (sI s 9 (nI j)) 10 (nI j)) 8 1) := ((((zSm.rf s).tI (by simp) _).tI (by simp) _).tI (by simp) _)
      exact ⟨rfl, rfl, h.1, ⟨by show 1 ≤ 10; omega, fun _ => ⟨hj, hj⟩, fun q => absurd (show (1 : Nat) = 0 from q) (by decide)⟩, h.2.2.1.sm hS ⟨by simp, by simp⟩ ⟨by simp, by simp, by simp, by simp, by simp, by simp, by simp⟩ (by simp), rfl, fun _ => ⟨rfl, rfl⟩, q11⟩
  · have c10 : P.1 = 10 := by
      have : ¬ P.1 < 10 := fun q => c (nI_lt (b := 10) q (by omega))
      omega
    rw [if_pos c10]
    exact ⟨1, rfl, rfl, h⟩
theorem X_end {A : zNt} {P : zPa} {s : zS} (h : ST A P s) : W_X4_end s (fun r s' => r = nI P.1 ∧ ST A (0, 0, 0, 0) s') := by
  refine nm_e (nm_e (nm_e ⟨h.2.2.2.1, h.1, ⟨Nat.zero_le _, fun q => absurd q (by decide), fun _ => rfl⟩, ?_, rfl, fun q => absurd q (by decide), rfl⟩))
  have hS : zSm [8, 11] [] [] [] s (sI (sI s 8 0) 11 0) := (((zSm.rf s).tI (by simp) _).tI (by simp) _)
  exact h.2.2.1.sm hS ⟨by simp, by simp⟩ ⟨by simp, by simp, by simp, by simp, by simp, by simp, by simp⟩ (by simp)
theorem X_sum {A : zNt} {P : zPa} {s : zS} (h : ST A P s) : W_X4_sum s (fun r => r = P.2.2.2) := h.2.2.2.2.2
def aClosed (P : zPa) : Bool := decide (0 < P.1 ∧ P.2.1 = P.2.2.1 ∧ P.2.2.2 = 0)
theorem X_closed {A : zNt} {P : zPa} {s : zS} (h : ST A P s) : W_X4_isClosed s (fun r => r = bI (aClosed P)) := by
  have hn := h.1.1
  have hp := h.2.1.1
  unfold W_X4_isClosed aClosed
  obtain ⟨q8, q9, q11⟩ := h.2.2.2
  rw [q8, q11]
  refine br_c (fun c => ?_) (fun c => ?_)
  · have c0 : P.1 ≤ 0 := (nI_leI (b := 0) (by omega) (by omega)).mp c
    rw [decide_eq_false (fun q => by omega)]
    rfl
  · have c0 : ¬ P.1 ≤ 0 := fun q => c (nI_le (b := 0) q (by omega))
    obtain ⟨g9, g10⟩ := q9 (by omega)
    obtain ⟨b1, b2⟩ := h.2.1.2.1 (by omega)
    rw [g9, g10]
    refine nt_c (fun d => ?_) (fun d => nt_c (fun d2 => ?_) (fun d2 => ?_))
    · rw [decide_eq_false (fun q => d (by rw [q.2.1]))]
      rfl
    · rw [decide_eq_false (fun q => d2 q.2.2)]
      rfl
    · rw [decide_eq_true ⟨by omega, (nI_eq (by omega) (by omega)).mp d, d2⟩]
      rfl
theorem X_worst {A : zNt} {P : zPa} {s : zS} (h : ST A P s) : W_X4_worst s (fun r s' => r = iI (aWst A (nko A)).1 ∧ ST A P s') :=
  W_worst h.1 h.2.2.1 _ (fun s' hS _ => ⟨rfl, ST_scr h hS⟩)
theorem X_parts {A : zNt} {P : zPa} {s : zS} (h : ST A P s) : W_X4_parts s (fun r => r = nI (nprt A)) := W_countParts h.1 h.2.2.1 _ rfl
theorem X_height {A : zNt} {P : zPa} {s : zS} (h : ST A P s) (x : Int32) : W_X4_height s x (fun r => okX (oSt A P (aHgt A) x) r) (exX (oSt A P (aHgt A) x) ["java/lang/IndexOutOfBoundsException"]) := by
  unfold oSt
  refine W_needSt h x _ _ (fun j hj e ho => ?_) (fun ho => by rw [ho]; exact ⟨0, rfl, rfl, h⟩)
  rw [ho]
  subst e
  exact W_heightOf h.1 h.2.2.1 hj _ (fun s' hS _ => ⟨rfl, rfl, ST_scr h hS⟩)
theorem X_heightAnew {A : zNt} {P : zPa} {s : zS} (h : ST A P s) (x : Int32) : W_X4_heightAnew s x (fun r => okX (oSt A P (aHgt A) x) r) (exX (oSt A P (aHgt A) x) ["java/lang/IndexOutOfBoundsException"]) := by
  unfold oSt
  refine W_needSt h x _ _ (fun j hj e ho => ?_) (fun ho => by rw [ho]; exact ⟨0, rfl, rfl, h⟩)
  rw [ho]
  subst e
  exact W_walkHeight h.1 h.2.2.1 hj _ (fun s' hS _ => ⟨rfl, rfl, ST_scw h hS⟩)
theorem X_free {A : zNt} {P : zPa} {s : zS} (h : ST A P s) (x : Int32) : W_X4_free s x (fun r => okX (oSt A P (aFre A) x) r) (exX (oSt A P (aFre A) x) ["java/lang/IndexOutOfBoundsException"]) := by
  unfold oSt
  refine W_needSt h x _ _ (fun j hj e ho => ?_) (fun ho => by rw [ho]; exact ⟨0, rfl, rfl, h⟩)
  rw [ho]
  subst e
  exact W_freeHeightOf h.1 h.2.2.1 hj _ (fun s' hS _ => ⟨rfl, rfl, ST_scr h hS⟩)
theorem X_trees {A : zNt} {P : zPa} {s : zS} (h : ST A P s) (x : Int32) : W_X4_trees s x (fun r => okX (oSt A P (fun t => pT A t 14) x) r) (exX (oSt A P (fun t => pT A t 14) x) ["java/lang/IndexOutOfBoundsException"]) := by
  unfold oSt
  refine W_needSt h x _ _ (fun j hj e ho => ?_) (fun ho => by rw [ho]; exact ⟨0, rfl, rfl, h⟩)
  rw [ho]
  subst e
  exact W_treeWeightOf h.1 h.2.2.1 hj _ (fun s' hS _ => ⟨rfl, rfl, ST_scr h hS⟩)
theorem X_residual {A : zNt} {P : zPa} {s : zS} (h : ST A P s) (x : Int32) : W_X4_residual s x (fun r => okX (oOb A P (aRes A) x) r) (exX (oOb A P (aRes A) x) ["java/lang/IndexOutOfBoundsException", "java/lang/IllegalStateException"]) := by
  unfold oOb
  refine W_needObIn h x _ _ (fun j hj e ho hw => ?_) (fun j ho hw => ?_) (fun ho => by rw [ho]; exact ⟨0, rfl, rfl, h⟩)
  · rw [ho]
    subst e
    dsimp only
    rw [if_neg (by rw [hw]; decide)]
    exact W_residualOf h.1 h.2.2.1 hj _ (fun s' hS _ => ⟨rfl, rfl, ST_scr h hS⟩)
  · rw [ho]
    dsimp only
    rw [if_pos hw]
    exact ⟨1, rfl, rfl, h⟩
theorem X_check {A : zNt} {P : zPa} {s : zS} (h : ST A P s) (x : Int32) : W_X4_check s x (fun r => okX (oOb A P (aChk A) x) r.toInt64) (exX (oOb A P (aChk A) x) ["java/lang/IndexOutOfBoundsException", "java/lang/IllegalStateException"]) := by
  unfold oOb
  refine W_needObIn h x _ _ (fun j hj e ho hw => ?_) (fun j ho hw => ?_) (fun ho => by rw [ho]; exact ⟨0, rfl, rfl, h⟩)
  · rw [ho]
    subst e
    dsimp only
    rw [if_neg (by rw [hw]; decide)]
    have hc := aChk_le h.1 hj
    exact W_checkOf h.1 h.2.2.1 hj _ (fun s' hS _ => ⟨rfl, iI_l ⟨by omega, by omega⟩, ST_scr h hS⟩)
  · rw [ho]
    dsimp only
    rw [if_pos hw]
    exact ⟨1, rfl, rfl, h⟩
theorem X_checkAnew {A : zNt} {P : zPa} {s : zS} (h : ST A P s) (x : Int32) : W_X4_checkAnew s x (fun r => okX (oOb A P (aChk A) x) r.toInt64) (exX (oOb A P (aChk A) x) ["java/lang/IndexOutOfBoundsException", "java/lang/IllegalStateException"]) := by
  unfold oOb
  refine W_needObIn h x _ _ (fun j hj e ho hw => ?_) (fun j ho hw => ?_) (fun ho => by rw [ho]; exact ⟨0, rfl, rfl, h⟩)
  · rw [ho]
    subst e
    dsimp only
    rw [if_neg (by rw [hw]; decide)]
    have hc := aChk_le h.1 hj
    exact W_walkCheck h.1 h.2.2.1 hj _ (fun s' hS _ => ⟨rfl, iI_l ⟨by omega, by omega⟩, ST_scw h hS⟩)
  · rw [ho]
    dsimp only
    rw [if_pos hw]
    exact ⟨1, rfl, rfl, h⟩
theorem X_score {A : zNt} {P : zPa} {s : zS} (h : ST A P s) (x : Int32) : W_X4_score s x (fun r => okX (oOb A P (aScr A) x) r) (exX (oOb A P (aScr A) x) ["java/lang/IndexOutOfBoundsException", "java/lang/IllegalStateException"]) := by
  unfold oOb
  refine W_needObIn h x _ _ (fun j hj e ho hw => ?_) (fun j ho hw => ?_) (fun ho => by rw [ho]; exact ⟨0, rfl, rfl, h⟩)
  · rw [ho]
    subst e
    dsimp only
    rw [if_neg (by rw [hw]; decide)]
    exact W_scoreOf h.1 h.2.2.1 hj _ (fun s' hS _ => ⟨rfl, rfl, ST_scr h hS⟩)
  · rw [ho]
    dsimp only
    rw [if_pos hw]
    exact ⟨1, rfl, rfl, h⟩
end ZOPS2

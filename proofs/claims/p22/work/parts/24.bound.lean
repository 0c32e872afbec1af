/-! HOW LARGE SUMS OVER TREES CAN BECOME -/
section ZQ
theorem sN_le {f g : Nat → Int} : ∀ n, (∀ j, j < n → f j ≤ g j) → sN f n ≤ sN g n
  | 0, _ => Int.le_refl _
  | n + 1, h => by
    have h1 := sN_le n (fun j hj => h j (by omega))
    have h2 := h n (by omega)
    simp only [sN]
    omega
theorem sN_nonneg {f : Nat → Int} (n : Nat) (h : ∀ j, j < n → 0 ≤ f j) : 0 ≤ sN f n := by
  have := sN_le (f := fun _ => 0) (g := f) n h
  rw [sN_zero n (fun _ _ => rfl)] at this
  exact this
theorem sN_ge {f : Nat → Int} (n : Nat) (h : ∀ j, j < n → 0 ≤ f j) (i : Nat) (hi : i < n) : f i ≤ sN f n := by
  have hp := sN_pick f i n
  rw [if_pos hi] at hp
  rw [← hp]
  refine sN_le n (fun j hj => ?_)
  unfold zd
  by_cases e : i = j
  · subst e
    rw [if_pos rfl]
    omega
  · rw [if_neg e]
    have := h j hj
    omega
/-- the trees, if the invariant holds at each -/
theorem TS_le {S : List Nat} {v : (Nat → Int) → Int} {B : Int} (I : (Nat → Nat) → (Nat → Int) → Prop) (E : List zE) (hw : ∀ e ∈ E, 0 < e.2.2.2)
    (hj : ∀ e ∈ E, ∀ lab ris, I lab ris → lab e.1 ≠ lab e.2.1 → I (jl e.1 e.2.1 lab) (jr e.1 e.2.1 e.2.2.1 lab ris))
    (hend : ∀ lab ris, I lab ris → zconn S lab → -B ≤ v ris ∧ v ris ≤ B) (lab : Nat → Nat) (ris : Nat → Int) (h : I lab ris) :
    -(B * TD S E lab) ≤ TS S v E lab ris ∧ TS S v E lab ris ≤ B * TD S E lab := by
  induction E generalizing lab ris with
  | nil =>
    simp only [TS, TD]
    by_cases c : zconn S lab
    · rw [if_pos c, if_pos c]
      have := hend lab ris h c
      omega
    · rw [if_neg c, if_neg c]
      omega
  | cons e E ih =>
    have ih := ih (fun e he => hw e (List.mem_cons_of_mem _ he)) (fun e he => hj e (List.mem_cons_of_mem _ he))
    have h1 := ih lab ris h
    simp only [TS]
    show -(B * TS S (fun _ => 1) (e :: E) lab (fun _ => 0)) ≤ _ ∧ _ ≤ B * TS S (fun _ => 1) (e :: E) lab (fun _ => 0)
    simp only [TS]
    rw [TD_eq S E (jl e.1 e.2.1 lab) (jr e.1 e.2.1 e.2.2.1 lab (fun _ => 0)) (fun _ => 0)]
    by_cases c : lab e.1 = lab e.2.1
    · rw [if_pos c, if_pos c, Int.add_zero, Int.add_zero]
      exact h1
    · rw [if_neg c, if_neg c]
      have h2 := ih (jl e.1 e.2.1 lab) (jr e.1 e.2.1 e.2.2.1 lab ris) (hj e List.mem_cons_self lab ris h c)
      have h0 := Int.le_of_lt (hw e List.mem_cons_self)
      have h3 := Int.mul_le_mul_of_nonneg_left h2.1 h0
      have h4 := Int.mul_le_mul_of_nonneg_left h2.2 h0
      generalize TS S v E (jl e.1 e.2.1 lab) (jr e.1 e.2.1 e.2.2.1 lab ris) = T at h3 h4 ⊢
      generalize hZ : TS S (fun _ => 1) E (jl e.1 e.2.1 lab) (fun _ => 0) = Z at h3 h4 ⊢
      have e1 : B * (TS S (fun _ => 1) E lab (fun _ => 0) + e.2.2.2 * Z) = B * TS S (fun _ => 1) E lab (fun _ => 0) + e.2.2.2 * (B * Z) := by grind
      rw [e1]
      have e2 : e.2.2.2 * (-(B * Z)) = -(e.2.2.2 * (B * Z)) := by grind
      have e3 : TD S E (jl e.1 e.2.1 lab) = Z := hZ
      rw [e3] at h3 h4
      rw [e2] at h3
      have e4 : TD S E lab = TS S (fun _ => 1) E lab (fun _ => 0) := rfl
      rw [← e4]
      omega
/-- how many places of N the labels of S take -/
def zat (S : List Nat) (lab : Nat → Nat) (q : Nat) : Int := if ∃ s ∈ S, lab s = q then 1 else 0
def zcnt (S : List Nat) (N : Nat) (lab : Nat → Nat) : Int := sN (zat S lab) N
theorem zat_nonneg (S : List Nat) (lab : Nat → Nat) (q : Nat) : 0 ≤ zat S lab q := by unfold zat; split <;> omega
theorem zcnt_join {S : List Nat} {N f t : Nat} {lab : Nat → Nat} (hf : f ∈ S) (ht : t ∈ S) (hl : lab t < N) (h : lab f ≠ lab t) : zcnt S N (jl f t lab) = zcnt S N lab - 1 := by
  have hp := sN_pick (fun _ => 1) (lab t) N
  rw [if_pos hl] at hp
  have e : zcnt S N lab = zcnt S N (jl f t lab) + sN (fun j => zd j (lab t) * 1) N := by
    unfold zcnt
    rw [← sN_add]
    refine sN_congr N (fun q _ => ?_)
    unfold zat zd
    by_cases e : lab t = q
    · rw [if_pos e, if_pos ⟨t, ht, e⟩, if_neg (fun ⟨s, hs, h1⟩ => by
        unfold jl at h1
        split at h1 <;> omega)]
      omega
    · rw [if_neg e]
      by_cases c : ∃ s ∈ S, lab s = q
      · rw [if_pos c]
        obtain ⟨s, hs, h1⟩ := c
        have : ∃ s ∈ S, jl f t lab s = q := by
          refine ⟨s, hs, ?_⟩
          unfold jl
          rw [if_neg (by omega)]
          exact h1
        rw [if_pos this]
        omega
      · rw [if_neg c, if_neg (fun ⟨s, hs, h1⟩ => c (by
          unfold jl at h1
          split at h1
          · exact ⟨f, hf, h1⟩
          · exact ⟨s, hs, h1⟩))]
        omega
  omega
theorem zcnt_pos {S : List Nat} {N s : Nat} {lab : Nat → Nat} (hs : s ∈ S) (hl : lab s < N) : 1 ≤ zcnt S N lab := by
  have h := sN_ge (f := zat S lab) N (fun j _ => zat_nonneg S lab j) (lab s) hl
  have : zat S lab (lab s) = 1 := by unfold zat; rw [if_pos ⟨s, hs, rfl⟩]
  unfold zcnt
  omega
theorem zcnt_conn {S : List Nat} {N s : Nat} {lab : Nat → Nat} (hs : s ∈ S) (hl : lab s < N) (c : zconn S lab) : zcnt S N lab = 1 := by
  have hp := sN_pick (fun _ => 1) (lab s) N
  rw [if_pos hl] at hp
  rw [← hp]
  unfold zcnt
  refine sN_congr N (fun q _ => ?_)
  unfold zat zd
  by_cases e : lab s = q
  · rw [if_pos e, if_pos ⟨s, hs, e⟩]
    rfl
  · rw [if_neg e, if_neg (fun ⟨u, hu, h1⟩ => e (by rw [← h1]; exact c s hs u hu))]
    rfl
def zbe : Nat → Nat → Int
  | 0, _ => 1
  | _ + 1, 0 => 0
  | j + 1, n + 1 => zbe (j + 1) n + 5 * zbe j n
theorem zbe_nonneg : ∀ j n, 0 ≤ zbe j n
  | 0, _ => by simp only [zbe]; omega
  | _ + 1, 0 => by simp only [zbe]; omega
  | j + 1, n + 1 => by
    have h1 := zbe_nonneg (j + 1) n
    have h2 := zbe_nonneg j n
    simp only [zbe]
    omega
theorem zbe_succ : ∀ j n, zbe j n ≤ zbe j (n + 1)
  | 0, _ => by simp only [zbe]; omega
  | j + 1, n => by
    have h2 := zbe_nonneg j n
    simp only [zbe]
    omega
theorem zbe_mono (j : Nat) {n n' : Nat} (h : n ≤ n') : zbe j n ≤ zbe j n' := by
  induction n' with
  | zero => rw [show n = 0 by omega]; exact Int.le_refl _
  | succ n' ih =>
    by_cases e : n = n' + 1
    · rw [e]; exact Int.le_refl _
    · exact Int.le_trans (ih (by omega)) (zbe_succ j n')
theorem TD_le {S : List Nat} {N d0 : Nat} (hd : d0 ∈ S) (E : List zE) (hE : ∀ e ∈ E, e.1 ∈ S ∧ e.2.1 ∈ S) (hw : ∀ e ∈ E, 0 < e.2.2.2 ∧ e.2.2.2 ≤ 5) (lab : Nat → Nat) (hl : ∀ s ∈ S, lab s < N) (j : Nat) (hj : zcnt S N lab = j + 1) : TD S E lab ≤ zbe j E.length := by
  induction E generalizing lab j with
  | nil =>
    simp only [TD, TS]
    by_cases c : zconn S lab
    · have := zcnt_conn hd (hl d0 hd) c
      have e : j = 0 := by omega
      subst e
      rw [if_pos c]
      exact Int.le_refl _
    · rw [if_neg c]
      exact zbe_nonneg _ _
  | cons e E ih =>
    obtain ⟨hf, ht⟩ := hE e List.mem_cons_self
    have ih := ih (fun e he => hE e (List.mem_cons_of_mem _ he)) (fun e he => hw e (List.mem_cons_of_mem _ he))
    have h1 := ih lab hl j hj
    show TS S (fun _ => 1) (e :: E) lab (fun _ => 0) ≤ _
    simp only [TS, List.length_cons]
    rw [TD_eq S E (jl e.1 e.2.1 lab) (jr e.1 e.2.1 e.2.2.1 lab (fun _ => 0)) (fun _ => 0)]
    have e4 : TD S E lab = TS S (fun _ => 1) E lab (fun _ => 0) := rfl
    rw [← e4]
    by_cases c : lab e.1 = lab e.2.1
    · rw [if_pos c]
      have := zbe_succ j E.length
      omega
    · rw [if_neg c]
      have hl2 : ∀ s ∈ S, jl e.1 e.2.1 lab s < N := fun s hs => by
        unfold jl
        split
        · exact hl _ hf
        · exact hl s hs
      have h2 := zcnt_join hf ht (hl _ ht) c
      have h3 := zcnt_pos hd (hl2 d0 hd)
      cases j with
      | zero => omega
      | succ j =>
        have h4 := ih (jl e.1 e.2.1 lab) hl2 j (by omega)
        obtain ⟨w0, w5⟩ := hw e List.mem_cons_self
        have h5 : TS S (fun _ => 1) E (jl e.1 e.2.1 lab) (fun _ => 0) = TD S E (jl e.1 e.2.1 lab) := rfl
        rw [h5]
        have h6 : e.2.2.2 * TD S E (jl e.1 e.2.1 lab) ≤ 5 * zbe j E.length :=
          Int.le_trans (Int.mul_le_mul_of_nonneg_left h4 (Int.le_of_lt w0)) (Int.mul_le_mul_of_nonneg_right w5 (zbe_nonneg _ _))
        simp only [zbe]
        omega
/-- how many stations a piece has -/
def zsz (S : List Nat) (N : Nat) (lab : Nat → Nat) (q : Nat) : Int := sN (fun s => if s ∈ S ∧ lab s = q then 1 else 0) N
theorem zsz_one {S : List Nat} {N s : Nat} {lab : Nat → Nat} (hs : s ∈ S) (hN : s < N) : 1 ≤ zsz S N lab (lab s) := by
  have h := sN_ge (f := fun u => if u ∈ S ∧ lab u = lab s then (1 : Int) else 0) N (fun j _ => by split <;> omega) s hN
  rw [if_pos ⟨hs, rfl⟩] at h
  exact h
theorem zsz_two {S : List Nat} {N s t : Nat} {lab : Nat → Nat} (hs : s ∈ S) (hN : s < N) (ht : t ∈ S) (hN2 : t < N) (hl : lab s = lab t) (hne : s ≠ t) : 2 ≤ zsz S N lab (lab s) := by
  have p1 := sN_pick (fun _ => 1) s N
  have p2 := sN_pick (fun _ => 1) t N
  rw [if_pos hN] at p1
  rw [if_pos hN2] at p2
  have h : sN (fun j => zd j s * 1 + zd j t * 1) N ≤ zsz S N lab (lab s) := by
    refine sN_le N (fun u _ => ?_)
    unfold zd
    by_cases e1 : s = u
    · subst e1
      rw [if_pos rfl, if_neg (fun q => hne q.symm), if_pos ⟨hs, rfl⟩]
      omega
    · by_cases e2 : t = u
      · subst e2
        rw [if_neg hne, if_pos rfl, if_pos ⟨ht, hl.symm⟩]
        omega
      · rw [if_neg e1, if_neg e2]
        split <;> omega
  rw [sN_add, p1, p2] at h
  omega
theorem zsz_le (S : List Nat) (N : Nat) (lab : Nat → Nat) (q : Nat) : zsz S N lab q ≤ N := by
  have h : zsz S N lab q ≤ sN (fun _ => 1) N := sN_le N (fun u _ => by split <;> omega)
  have : ∀ n : Nat, sN (fun _ => 1) n = n := fun n => by
    induction n with
    | zero => rfl
    | succ n ih => simp only [sN]; omega
  rw [this] at h
  exact h
theorem zsz_join {S : List Nat} {N f t : Nat} {lab : Nat → Nat} (h : lab f ≠ lab t) : zsz S N (jl f t lab) (lab f) = zsz S N lab (lab f) + zsz S N lab (lab t) := by
  unfold zsz
  rw [← sN_add]
  refine sN_congr N (fun s _ => ?_)
  unfold jl
  by_cases hs : s ∈ S
  · by_cases c : lab s = lab t
    · rw [if_pos ⟨hs, by rw [if_pos c]⟩, if_neg (fun q => h (by rw [← q.2, c])), if_pos ⟨hs, c⟩]
      rfl
    · by_cases c2 : lab s = lab f
      · rw [if_pos ⟨hs, by rw [if_neg c]; exact c2⟩, if_pos ⟨hs, c2⟩, if_neg (fun q => c q.2)]
        rfl
      · rw [if_neg (fun q => c2 (by have := q.2; rw [if_neg c] at this; exact this)), if_neg (fun q => c2 q.2), if_neg (fun q => c q.2)]
        rfl
  · rw [if_neg (fun q => hs q.1), if_neg (fun q => hs q.1), if_neg (fun q => hs q.1)]
    rfl
theorem zsz_keep {S : List Nat} {N f t q : Nat} {lab : Nat → Nat} (h1 : q ≠ lab f) (h2 : q ≠ lab t) : zsz S N (jl f t lab) q = zsz S N lab q := by
  unfold zsz
  refine sN_congr N (fun s _ => ?_)
  unfold jl
  by_cases c : lab s = lab t
  · rw [if_neg (fun r => h1 (by have := r.2; rw [if_pos c] at this; exact this.symm)), if_neg (fun r => h2 (by rw [← r.2, c]))]
  · rw [if_neg c]
/-- within a piece, heights differ at most by c for each further station -/
def zspr (S : List Nat) (N : Nat) (c : Int) (lab : Nat → Nat) (ris : Nat → Int) : Prop :=
  ∀ s ∈ S, ∀ t ∈ S, lab s = lab t → ris s - ris t ≤ c * (zsz S N lab (lab s) - 1)
theorem zspr_join {S : List Nat} {N f t : Nat} {c d : Int} {lab : Nat → Nat} {ris : Nat → Int} (hf : f ∈ S) (ht : t ∈ S) (hd : -c ≤ d ∧ d ≤ c) (h : zspr S N c lab ris) (hne : lab f ≠ lab t) : zspr S N c (jl f t lab) (jr f t d lab ris) := by
  intro s hs u hu he
  by_cases c1 : lab s = lab t <;> by_cases c2 : lab u = lab t
  · have e1 : jl f t lab s = lab f := by unfold jl; rw [if_pos c1]
    have r1 : jr f t d lab ris s = ris s + (ris f + d - ris t) := by unfold jr; rw [if_pos c1]
    have r2 : jr f t d lab ris u = ris u + (ris f + d - ris t) := by unfold jr; rw [if_pos c2]
    rw [e1, zsz_join hne, r1, r2]
    have h1 := h s hs u hu (c1.trans c2.symm)
    have h2 := h f hf f hf rfl
    rw [c1] at h1
    have e : c * (zsz S N lab (lab f) + zsz S N lab (lab t) - 1) = c * (zsz S N lab (lab f) - 1) + c * (zsz S N lab (lab t) - 1) + c := by grind
    rw [e]
    omega
  · have e1 : jl f t lab s = lab f := by unfold jl; rw [if_pos c1]
    have e2 : jl f t lab u = lab u := by unfold jl; rw [if_neg c2]
    have r1 : jr f t d lab ris s = ris s + (ris f + d - ris t) := by unfold jr; rw [if_pos c1]
    have r2 : jr f t d lab ris u = ris u := by unfold jr; rw [if_neg c2]
    rw [e1, e2] at he
    rw [e1, zsz_join hne, r1, r2]
    have h1 := h s hs t ht c1
    have h2 := h f hf u hu he
    rw [c1] at h1
    have e : c * (zsz S N lab (lab f) + zsz S N lab (lab t) - 1) = c * (zsz S N lab (lab f) - 1) + c * (zsz S N lab (lab t) - 1) + c := by grind
    rw [e]
    omega
  · have e1 : jl f t lab s = lab s := by unfold jl; rw [if_neg c1]
    have e2 : jl f t lab u = lab f := by unfold jl; rw [if_pos c2]
    have r1 : jr f t d lab ris s = ris s := by unfold jr; rw [if_neg c1]
    have r2 : jr f t d lab ris u = ris u + (ris f + d - ris t) := by unfold jr; rw [if_pos c2]
    rw [e1, e2] at he
    rw [e1, he, zsz_join hne, r1, r2]
    have h1 := h t ht u hu c2.symm
    have h2 := h s hs f hf he
    rw [he] at h2
    have e : c * (zsz S N lab (lab f) + zsz S N lab (lab t) - 1) = c * (zsz S N lab (lab f) - 1) + c * (zsz S N lab (lab t) - 1) + c := by grind
    rw [e]
    omega
  · have e1 : jl f t lab s = lab s := by unfold jl; rw [if_neg c1]
    have e2 : jl f t lab u = lab u := by unfold jl; rw [if_neg c2]
    have r1 : jr f t d lab ris s = ris s := by unfold jr; rw [if_neg c1]
    have r2 : jr f t d lab ris u = ris u := by unfold jr; rw [if_neg c2]
    rw [e1, e2] at he
    rw [e1, r1, r2]
    have h1 := h s hs u hu he
    by_cases c3 : lab s = lab f
    · rw [c3, zsz_join hne]
      rw [c3] at h1
      have h2 := h t ht t ht rfl
      have e : c * (zsz S N lab (lab f) + zsz S N lab (lab t) - 1) = c * (zsz S N lab (lab f) - 1) + c * (zsz S N lab (lab t) - 1) + c := by grind
      rw [e]
      omega
    · rw [zsz_keep c3 c1]
      exact h1
theorem TP_le {S : List Nat} {N : Nat} {c : Int} (hc : 0 ≤ c) (E : List zE) (hE : ∀ e ∈ E, e.1 ∈ S ∧ e.2.1 ∈ S) (hw : ∀ e ∈ E, 0 < e.2.2.2) (hdl : ∀ e ∈ E, -c ≤ e.2.2.1 ∧ e.2.2.1 ≤ c) (lab : Nat → Nat) (ris : Nat → Int) (h : zspr S N c lab ris) {a b : Nat} (ha : a ∈ S) (hb : b ∈ S) :
    -(c * (N - 1) * TD S E lab) ≤ TS S (fun q => q a - q b) E lab ris ∧ TS S (fun q => q a - q b) E lab ris ≤ c * (N - 1) * TD S E lab := by
  refine TS_le (zspr S N c) E hw (fun e he lab ris h hne => zspr_join (hE e he).1 (hE e he).2 (hdl e he) h hne) (fun lab ris h hcn => ?_) lab ris h
  have h1 := h a ha b hb (hcn a ha b hb)
  have h2 := h b hb a ha (hcn b hb a ha)
  have h3 := Int.mul_le_mul_of_nonneg_left (show zsz S N lab (lab a) - 1 ≤ (N : Int) - 1 by have := zsz_le S N lab (lab a); omega) hc
  have h4 := Int.mul_le_mul_of_nonneg_left (show zsz S N lab (lab b) - 1 ≤ (N : Int) - 1 by have := zsz_le S N lab (lab b); omega) hc
  omega
theorem zspr_0 {S : List Nat} {N : Nat} (hS : ∀ s ∈ S, s < N) {c : Int} (hc : 0 ≤ c) (lab : Nat → Nat) : zspr S N c lab (fun _ => 0) := by
  intro s hs t ht _
  have h := Int.mul_nonneg hc (show 0 ≤ zsz S N lab (lab s) - 1 by have := zsz_one (lab := lab) hs (hS s hs); omega)
  show (0 : Int) - 0 ≤ _
  omega
theorem zspr_1 {S : List Nat} {N : Nat} (hS : ∀ s ∈ S, s < N) (lab : Nat → Nat) (c0 : Nat) : zspr S N 1 lab (zd c0) := by
  intro s hs t ht he
  by_cases e : s = t
  · subst e
    have := zsz_one (lab := lab) hs (hS s hs)
    omega
  · have := zsz_two hs (hS s hs) ht (hS t ht) he e
    unfold zd
    split <;> split <;> omega
end ZQ

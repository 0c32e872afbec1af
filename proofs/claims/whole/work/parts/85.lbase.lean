/-! THE LAW'S BODY: rows for its pieces -/
section ZLB
def zLW (a bm : Nat → Nat) (g : Nat → ClassId) (o : Nat) (q : zS × zS × (Nat → Int64)) : va_W := WM bm g q.2.1 ++ zWO a g o (q.1, q.2.2)
abbrev lvH (b : Nat) (a bm : Nat → Nat) (o : Nat) (i : Int32) : List (Nat × Value) := [(0, .ref b), (1, .ref (a 0)), (2, .ref (bm 0)), (3, .ref o), (4, .int i)]
theorem wp_zero {k : Int32} {n : Nat} (h1 : k = nI n) (h3 : n ≤ 3) (hz : k = 0) : n = 0 := by
  rw [h1] at hz
  have h : n = 0 ∨ n = 1 ∨ n = 2 ∨ n = 3 := by omega
  rcases h with rfl | rfl | rfl | rfl
  · rfl
  · exact absurd hz (by decide)
  · exact absurd hz (by decide)
  · exact absurd hz (by decide)
variable {X : zX} {D : va_G} {nL : Nat} {cc : ByteArray} {own : String} {Ts : List Cond} {tys : List (ClassId × FieldType)} {cells slots : Nat} {ws wa wb wc : va_W} {pc : Nat} {lv : List (Nat × Value)} {st : List Value} {b L : Nat} {xs : Nat → Int32}
theorem z_asl (kk : zV X D nL cells slots ((wa ++ wb) ++ wc) pc lv st) : zV X D nL cells slots (wa ++ (wb ++ wc)) pc lv st := by rw [List.append_assoc] at kk; exact kk
theorem z_asr (kk : zV X D nL cells slots (wa ++ (wb ++ wc)) pc lv st) : zV X D nL cells slots ((wa ++ wb) ++ wc) pc lv st := by rw [List.append_assoc]; exact kk
/-- script[i + n] -/
theorem z_arg (C : zC X D nL cc own Ts tys) (SC : zSc X b L xs) {i : Int32} {n : Int} (j0 j4 : Nat) (v : Int32) (hl0 : lv[j0]? = some (0, .ref b)) (hl4 : lv[j4]? = some (4, .int i)) (hv : Int32.ofInt n = v) (hin : vp_in (i + v) L) (d0 : decode cc pc = .ok (.aload_n 0, 1)) (d1 : decode cc (pc + 1) = .ok (.iload 4, 2)) (d3 : decode cc (pc + 3) = .ok (.iconst n, 1)) (d4 : decode cc (pc + 4) = .ok (.iadd, 1)) (d5 : decode cc (pc + 5) = .ok (.iaload, 1)) (kk : zV X D nL cells slots ws (pc + 6) lv (.int (xs (i + v).toNatClampNeg) :: st)) : zV X D nL cells slots ws pc lv st := by
  refine z_aload_n C j0 d0 hl0 ?_
  refine z_iload C j4 d1 hl4 ?_
  refine z_iconst C v d3 hv ?_
  refine z_iadd C d4 ?_
  exact z_sld C SC hin d5 kk
theorem z_bool (C : zC X D nL cc own Ts tys) {x : Int32} (d0 : decode cc pc = .ok (.ifCond .eq 7, 3)) (d1 : decode cc (pc + 3) = .ok (.iconst 1, 1)) (d2 : decode cc (pc + 4) = .ok (.goto 4, 3)) (d3 : decode cc (pc + 7) = .ok (.iconst 0, 1)) (kk : zV X D nL cells slots ws (pc + 8) lv (.int (bI (decide (x ≠ 0))) :: st)) : zV X D nL cells slots ws pc lv (.int x :: st) := by
  refine z_if_eq C (pc + 7) d0 (by omega) (fun hc => ?_) (fun hc => ?_)
  · refine z_iconst C 0 d3 (by decide) ?_
    rw [decide_eq_false (fun h => h hc)] at kk
    exact kk
  · refine z_iconst C 1 d1 (by decide) ?_
    refine z_goto C (pc + 8) d2 (by omega) ?_
    rw [decide_eq_true hc] at kk
    exact kk
theorem z_boolL (C : zC X D nL cc own Ts tys) {x : Int32} (d0 : decode cc pc = .ok (.ifCond .eq 7, 3)) (d1 : decode cc (pc + 3) = .ok (.lconst 1, 1)) (d2 : decode cc (pc + 4) = .ok (.goto 4, 3)) (d3 : decode cc (pc + 7) = .ok (.lconst 0, 1)) (kk : zV X D nL cells slots ws (pc + 8) lv (.long (if x = 0 then 0 else 1) :: st)) : zV X D nL cells slots ws pc lv (.int x :: st) := by
  refine z_if_eq C (pc + 7) d0 (by omega) (fun hc => ?_) (fun hc => ?_)
  · refine z_lconst C 0 d3 (by decide) ?_
    rw [if_pos hc] at kk
    exact kk
  · refine z_lconst C 1 d1 (by decide) ?_
    refine z_goto C (pc + 8) d2 (by omega) ?_
    rw [if_neg hc] at kk
    exact kk
end ZLB

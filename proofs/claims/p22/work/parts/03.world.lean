/-! STATES AND WORLDS: ints, longs, rows of ints, rows of longs -/
section ZW
abbrev zS : Type := (Nat → Int32) × (Nat → Int64) × (Nat → Nat → Int32) × (Nat → Nat → Int64)
def gI (s : zS) (k : Nat) : Int32 := s.1 k
def gJ (s : zS) (k : Nat) : Int64 := s.2.1 k
def gF (s : zS) (r : Nat) : Nat → Int32 := s.2.2.1 r
def gL (s : zS) (r : Nat) : Nat → Int64 := s.2.2.2 r
def sI (s : zS) (k : Nat) (v : Int32) : zS := (fun j => if j = k then v else s.1 j, s.2)
def sJ (s : zS) (k : Nat) (v : Int64) : zS := (s.1, fun j => if j = k then v else s.2.1 j, s.2.2)
def sF (s : zS) (r i : Nat) (v : Int32) : zS := (s.1, s.2.1, fun q => if q = r then upd (s.2.2.1 r) i v else s.2.2.1 q, s.2.2.2)
def sL (s : zS) (r i : Nat) (v : Int64) : zS := (s.1, s.2.1, s.2.2.1, fun q => if q = r then vp_updL (s.2.2.2 r) i v else s.2.2.2 q)
abbrev ix (i : Int32) : Nat := i.toNatClampNeg
abbrev zT (g : Nat → ClassId) : List (ClassId × FieldType) := [(g 0, .int), (g 1, .boolean), (g 2, .long), (g 3, .array .int), (g 4, .array .long)]
def WX (a : Nat → Nat) (g : Nat → ClassId) (s : zS) : va_W := [
  (a 0, .inr (4, [.ref (a 1), .ref (a 2), .ref (a 3), .ref (a 4)])),
  (a 1, .inr (1, [.int (gI s 0), .ref (a 5), .ref (a 6), .ref (a 7), .int (gI s 1), .ref (a 8), .ref (a 9), .ref (a 10), .ref (a 11), .ref (a 12)])),
  (a 2, .inr (0, [.ref (a 1), .ref (a 13), .ref (a 14), .int (gI s 2), .int (gI s 3), .long (gJ s 0)])),
  (a 3, .inr (3, [.ref (a 1), .ref (a 20), .ref (a 27), .int (gI s 4), .int (gI s 5), .int (gI s 6), .int (gI s 7), .long (gJ s 1), .long (gJ s 2), .long (gJ s 3)])),
  (a 4, .inr (2, [.int (gI s 8), .int (gI s 9), .int (gI s 10), .int (gI s 11)])),
  (a 5, .inl (g 1, 6, .inl (gF s 0))),
  (a 6, .inl (g 0, 6, .inl (gF s 1))),
  (a 7, .inl (g 0, 6, .inl (gF s 2))),
  (a 8, .inl (g 0, 14, .inl (gF s 3))),
  (a 9, .inl (g 0, 14, .inl (gF s 4))),
  (a 10, .inl (g 0, 14, .inl (gF s 5))),
  (a 11, .inl (g 0, 14, .inl (gF s 6))),
  (a 12, .inl (g 1, 14, .inl (gF s 7))),
  (a 13, .inl (g 0, 6, .inl (gF s 8))),
  (a 14, .inl (g 4, 5, .inr (.inr (.inr (.inr (fun j => if j < 5 then some (a (14 + 1 + j)) else none)))))),
  (a 15, .inl (g 2, 6, .inr (.inl (gL s 0)))),
  (a 16, .inl (g 2, 6, .inr (.inl (gL s 1)))),
  (a 17, .inl (g 2, 6, .inr (.inl (gL s 2)))),
  (a 18, .inl (g 2, 6, .inr (.inl (gL s 3)))),
  (a 19, .inl (g 2, 6, .inr (.inl (gL s 4)))),
  (a 20, .inl (g 3, 6, .inr (.inr (.inr (.inr (fun j => if j < 6 then some (a (20 + 1 + j)) else none)))))),
  (a 21, .inl (g 0, 6, .inl (gF s 9))),
  (a 22, .inl (g 0, 6, .inl (gF s 10))),
  (a 23, .inl (g 0, 6, .inl (gF s 11))),
  (a 24, .inl (g 0, 6, .inl (gF s 12))),
  (a 25, .inl (g 0, 6, .inl (gF s 13))),
  (a 26, .inl (g 0, 6, .inl (gF s 14))),
  (a 27, .inl (g 3, 6, .inr (.inr (.inr (.inr (fun j => if j < 6 then some (a (27 + 1 + j)) else none)))))),
  (a 28, .inl (g 0, 6, .inl (gF s 15))),
  (a 29, .inl (g 0, 6, .inl (gF s 16))),
  (a 30, .inl (g 0, 6, .inl (gF s 17))),
  (a 31, .inl (g 0, 6, .inl (gF s 18))),
  (a 32, .inl (g 0, 6, .inl (gF s 19))),
  (a 33, .inl (g 0, 6, .inl (gF s 20)))]
variable {X : zX} {D : va_G} {nL : Nat} {cc : ByteArray} {own : String} {Ts : List Cond} {g : Nat → ClassId} {cells slots : Nat} {pc : Nat} {lv : List (Nat × Value)} {st : List Value} {s : zS} {a b : Nat → Nat}
theorem zg4_net (C : zC X D nL cc own Ts (zT g)) (hin : ∀ w ∈ u_ws RX4 TX4 4, w ∈ Ts) {index : Nat} (hlink : Cond.fieldLink own index "TheodoliteRow" "net" "LTheodoliteRow$Net;" ∈ Ts) (hdg : decode cc pc = .ok (.getfield index, 3)) (kk : zV X D nL cells slots (WX a g s) (pc + 3) lv (.ref (a 1) :: st)) : zV X D nL cells slots (WX a g s) pc lv (.ref (a 0) :: st) :=
  z_get C hin 0 rfl rfl 0 (by decide) hlink rfl hdg kk
theorem zg4_adjustment (C : zC X D nL cc own Ts (zT g)) (hin : ∀ w ∈ u_ws RX4 TX4 4, w ∈ Ts) {index : Nat} (hlink : Cond.fieldLink own index "TheodoliteRow" "adjustment" "LTheodoliteRow$Adjustment;" ∈ Ts) (hdg : decode cc pc = .ok (.getfield index, 3)) (kk : zV X D nL cells slots (WX a g s) (pc + 3) lv (.ref (a 2) :: st)) : zV X D nL cells slots (WX a g s) pc lv (.ref (a 0) :: st) :=
  z_get C hin 0 rfl rfl 1 (by decide) hlink rfl hdg kk
theorem zg4_treeWalk (C : zC X D nL cc own Ts (zT g)) (hin : ∀ w ∈ u_ws RX4 TX4 4, w ∈ Ts) {index : Nat} (hlink : Cond.fieldLink own index "TheodoliteRow" "treeWalk" "LTheodoliteRow$TreeWalk;" ∈ Ts) (hdg : decode cc pc = .ok (.getfield index, 3)) (kk : zV X D nL cells slots (WX a g s) (pc + 3) lv (.ref (a 3) :: st)) : zV X D nL cells slots (WX a g s) pc lv (.ref (a 0) :: st) :=
  z_get C hin 0 rfl rfl 2 (by decide) hlink rfl hdg kk
theorem zg4_path (C : zC X D nL cc own Ts (zT g)) (hin : ∀ w ∈ u_ws RX4 TX4 4, w ∈ Ts) {index : Nat} (hlink : Cond.fieldLink own index "TheodoliteRow" "path" "LTheodoliteRow$Path;" ∈ Ts) (hdg : decode cc pc = .ok (.getfield index, 3)) (kk : zV X D nL cells slots (WX a g s) (pc + 3) lv (.ref (a 4) :: st)) : zV X D nL cells slots (WX a g s) pc lv (.ref (a 0) :: st) :=
  z_get C hin 0 rfl rfl 3 (by decide) hlink rfl hdg kk
theorem zg1_stations (C : zC X D nL cc own Ts (zT g)) (hin : ∀ w ∈ u_ws RX1 TX1 10, w ∈ Ts) {index : Nat} (hlink : Cond.fieldLink own index "TheodoliteRow$Net" "stations" "I" ∈ Ts) (hdg : decode cc pc = .ok (.getfield index, 3)) (kk : zV X D nL cells slots (WX a g s) (pc + 3) lv (.int (gI s 0) :: st)) : zV X D nL cells slots (WX a g s) pc lv (.ref (a 1) :: st) :=
  z_get C hin 1 rfl rfl 0 (by decide) hlink rfl hdg kk
theorem zp1_stations (C : zC X D nL cc own Ts (zT g)) (hin : ∀ w ∈ u_ws RX1 TX1 10, w ∈ Ts) {index : Nat} (hlink : Cond.fieldLink own index "TheodoliteRow$Net" "stations" "I" ∈ Ts) {v : Int32} (hdg : decode cc pc = .ok (.putfield index, 3)) (kk : zV X D nL cells slots (WX a g (sI s 0 v)) (pc + 3) lv (st)) : zV X D nL cells slots (WX a g s) pc lv (.int v :: .ref (a 1) :: st) :=
  z_put (ci := 1) (fs := [.int (gI s 0), .ref (a 5), .ref (a 6), .ref (a 7), .int (gI s 1), .ref (a 8), .ref (a 9), .ref (a 10), .ref (a 11), .ref (a 12)]) (ty := .int) (ws' := WX a g (sI s 0 v)) C hin tyX1 tyX1_ok nmX1 1 rfl rfl 0 (by decide) hlink rfl (by decide +kernel) rfl rfl (Nat.le_of_ble_eq_true rfl) hdg rfl kk
theorem zg1_isTold (C : zC X D nL cc own Ts (zT g)) (hin : ∀ w ∈ u_ws RX1 TX1 10, w ∈ Ts) {index : Nat} (hlink : Cond.fieldLink own index "TheodoliteRow$Net" "isTold" "[Z" ∈ Ts) (hdg : decode cc pc = .ok (.getfield index, 3)) (kk : zV X D nL cells slots (WX a g s) (pc + 3) lv (.ref (a 5) :: st)) : zV X D nL cells slots (WX a g s) pc lv (.ref (a 1) :: st) :=
  z_get C hin 1 rfl rfl 1 (by decide) hlink rfl hdg kk
theorem zg1_toldHeight (C : zC X D nL cc own Ts (zT g)) (hin : ∀ w ∈ u_ws RX1 TX1 10, w ∈ Ts) {index : Nat} (hlink : Cond.fieldLink own index "TheodoliteRow$Net" "toldHeight" "[I" ∈ Ts) (hdg : decode cc pc = .ok (.getfield index, 3)) (kk : zV X D nL cells slots (WX a g s) (pc + 3) lv (.ref (a 6) :: st)) : zV X D nL cells slots (WX a g s) pc lv (.ref (a 1) :: st) :=
  z_get C hin 1 rfl rfl 2 (by decide) hlink rfl hdg kk
theorem zg1_lowest (C : zC X D nL cc own Ts (zT g)) (hin : ∀ w ∈ u_ws RX1 TX1 10, w ∈ Ts) {index : Nat} (hlink : Cond.fieldLink own index "TheodoliteRow$Net" "lowest" "[I" ∈ Ts) (hdg : decode cc pc = .ok (.getfield index, 3)) (kk : zV X D nL cells slots (WX a g s) (pc + 3) lv (.ref (a 7) :: st)) : zV X D nL cells slots (WX a g s) pc lv (.ref (a 1) :: st) :=
  z_get C hin 1 rfl rfl 3 (by decide) hlink rfl hdg kk
theorem zg1_observations (C : zC X D nL cc own Ts (zT g)) (hin : ∀ w ∈ u_ws RX1 TX1 10, w ∈ Ts) {index : Nat} (hlink : Cond.fieldLink own index "TheodoliteRow$Net" "observations" "I" ∈ Ts) (hdg : decode cc pc = .ok (.getfield index, 3)) (kk : zV X D nL cells slots (WX a g s) (pc + 3) lv (.int (gI s 1) :: st)) : zV X D nL cells slots (WX a g s) pc lv (.ref (a 1) :: st) :=
  z_get C hin 1 rfl rfl 4 (by decide) hlink rfl hdg kk
theorem zp1_observations (C : zC X D nL cc own Ts (zT g)) (hin : ∀ w ∈ u_ws RX1 TX1 10, w ∈ Ts) {index : Nat} (hlink : Cond.fieldLink own index "TheodoliteRow$Net" "observations" "I" ∈ Ts) {v : Int32} (hdg : decode cc pc = .ok (.putfield index, 3)) (kk : zV X D nL cells slots (WX a g (sI s 1 v)) (pc + 3) lv (st)) : zV X D nL cells slots (WX a g s) pc lv (.int v :: .ref (a 1) :: st) :=
  z_put (ci := 1) (fs := [.int (gI s 0), .ref (a 5), .ref (a 6), .ref (a 7), .int (gI s 1), .ref (a 8), .ref (a 9), .ref (a 10), .ref (a 11), .ref (a 12)]) (ty := .int) (ws' := WX a g (sI s 1 v)) C hin tyX1 tyX1_ok nmX1 1 rfl rfl 4 (by decide) hlink rfl (by decide +kernel) rfl rfl (Nat.le_of_ble_eq_true rfl) hdg rfl kk
theorem zg1_from (C : zC X D nL cc own Ts (zT g)) (hin : ∀ w ∈ u_ws RX1 TX1 10, w ∈ Ts) {index : Nat} (hlink : Cond.fieldLink own index "TheodoliteRow$Net" "from" "[I" ∈ Ts) (hdg : decode cc pc = .ok (.getfield index, 3)) (kk : zV X D nL cells slots (WX a g s) (pc + 3) lv (.ref (a 8) :: st)) : zV X D nL cells slots (WX a g s) pc lv (.ref (a 1) :: st) :=
  z_get C hin 1 rfl rfl 5 (by decide) hlink rfl hdg kk
theorem zg1_to (C : zC X D nL cc own Ts (zT g)) (hin : ∀ w ∈ u_ws RX1 TX1 10, w ∈ Ts) {index : Nat} (hlink : Cond.fieldLink own index "TheodoliteRow$Net" "to" "[I" ∈ Ts) (hdg : decode cc pc = .ok (.getfield index, 3)) (kk : zV X D nL cells slots (WX a g s) (pc + 3) lv (.ref (a 9) :: st)) : zV X D nL cells slots (WX a g s) pc lv (.ref (a 1) :: st) :=
  z_get C hin 1 rfl rfl 6 (by decide) hlink rfl hdg kk
theorem zg1_difference (C : zC X D nL cc own Ts (zT g)) (hin : ∀ w ∈ u_ws RX1 TX1 10, w ∈ Ts) {index : Nat} (hlink : Cond.fieldLink own index "TheodoliteRow$Net" "difference" "[I" ∈ Ts) (hdg : decode cc pc = .ok (.getfield index, 3)) (kk : zV X D nL cells slots (WX a g s) (pc + 3) lv (.ref (a 10) :: st)) : zV X D nL cells slots (WX a g s) pc lv (.ref (a 1) :: st) :=
  z_get C hin 1 rfl rfl 7 (by decide) hlink rfl hdg kk
theorem zg1_weight (C : zC X D nL cc own Ts (zT g)) (hin : ∀ w ∈ u_ws RX1 TX1 10, w ∈ Ts) {index : Nat} (hlink : Cond.fieldLink own index "TheodoliteRow$Net" "weight" "[I" ∈ Ts) (hdg : decode cc pc = .ok (.getfield index, 3)) (kk : zV X D nL cells slots (WX a g s) (pc + 3) lv (.ref (a 11) :: st)) : zV X D nL cells slots (WX a g s) pc lv (.ref (a 1) :: st) :=
  z_get C hin 1 rfl rfl 8 (by decide) hlink rfl hdg kk
theorem zg1_isWithdrawn (C : zC X D nL cc own Ts (zT g)) (hin : ∀ w ∈ u_ws RX1 TX1 10, w ∈ Ts) {index : Nat} (hlink : Cond.fieldLink own index "TheodoliteRow$Net" "isWithdrawn" "[Z" ∈ Ts) (hdg : decode cc pc = .ok (.getfield index, 3)) (kk : zV X D nL cells slots (WX a g s) (pc + 3) lv (.ref (a 12) :: st)) : zV X D nL cells slots (WX a g s) pc lv (.ref (a 1) :: st) :=
  z_get C hin 1 rfl rfl 9 (by decide) hlink rfl hdg kk
theorem zg0_net (C : zC X D nL cc own Ts (zT g)) (hin : ∀ w ∈ u_ws RX0 TX0 6, w ∈ Ts) {index : Nat} (hlink : Cond.fieldLink own index "TheodoliteRow$Adjustment" "net" "LTheodoliteRow$Net;" ∈ Ts) (hdg : decode cc pc = .ok (.getfield index, 3)) (kk : zV X D nL cells slots (WX a g s) (pc + 3) lv (.ref (a 1) :: st)) : zV X D nL cells slots (WX a g s) pc lv (.ref (a 2) :: st) :=
  z_get C hin 2 rfl rfl 0 (by decide) hlink rfl hdg kk
theorem zg0_rowOf (C : zC X D nL cc own Ts (zT g)) (hin : ∀ w ∈ u_ws RX0 TX0 6, w ∈ Ts) {index : Nat} (hlink : Cond.fieldLink own index "TheodoliteRow$Adjustment" "rowOf" "[I" ∈ Ts) (hdg : decode cc pc = .ok (.getfield index, 3)) (kk : zV X D nL cells slots (WX a g s) (pc + 3) lv (.ref (a 13) :: st)) : zV X D nL cells slots (WX a g s) pc lv (.ref (a 2) :: st) :=
  z_get C hin 2 rfl rfl 1 (by decide) hlink rfl hdg kk
theorem zg0_cells (C : zC X D nL cc own Ts (zT g)) (hin : ∀ w ∈ u_ws RX0 TX0 6, w ∈ Ts) {index : Nat} (hlink : Cond.fieldLink own index "TheodoliteRow$Adjustment" "cells" "[[J" ∈ Ts) (hdg : decode cc pc = .ok (.getfield index, 3)) (kk : zV X D nL cells slots (WX a g s) (pc + 3) lv (.ref (a 14) :: st)) : zV X D nL cells slots (WX a g s) pc lv (.ref (a 2) :: st) :=
  z_get C hin 2 rfl rfl 2 (by decide) hlink rfl hdg kk
theorem zg0_unknowns (C : zC X D nL cc own Ts (zT g)) (hin : ∀ w ∈ u_ws RX0 TX0 6, w ∈ Ts) {index : Nat} (hlink : Cond.fieldLink own index "TheodoliteRow$Adjustment" "unknowns" "I" ∈ Ts) (hdg : decode cc pc = .ok (.getfield index, 3)) (kk : zV X D nL cells slots (WX a g s) (pc + 3) lv (.int (gI s 2) :: st)) : zV X D nL cells slots (WX a g s) pc lv (.ref (a 2) :: st) :=
  z_get C hin 2 rfl rfl 3 (by decide) hlink rfl hdg kk
theorem zp0_unknowns (C : zC X D nL cc own Ts (zT g)) (hin : ∀ w ∈ u_ws RX0 TX0 6, w ∈ Ts) {index : Nat} (hlink : Cond.fieldLink own index "TheodoliteRow$Adjustment" "unknowns" "I" ∈ Ts) {v : Int32} (hdg : decode cc pc = .ok (.putfield index, 3)) (kk : zV X D nL cells slots (WX a g (sI s 2 v)) (pc + 3) lv (st)) : zV X D nL cells slots (WX a g s) pc lv (.int v :: .ref (a 2) :: st) :=
  z_put (ci := 0) (fs := [.ref (a 1), .ref (a 13), .ref (a 14), .int (gI s 2), .int (gI s 3), .long (gJ s 0)]) (ty := .int) (ws' := WX a g (sI s 2 v)) C hin tyX0 tyX0_ok nmX0 2 rfl rfl 3 (by decide) hlink rfl (by decide +kernel) rfl rfl (Nat.le_of_ble_eq_true rfl) hdg rfl kk
theorem zg0_datum (C : zC X D nL cc own Ts (zT g)) (hin : ∀ w ∈ u_ws RX0 TX0 6, w ∈ Ts) {index : Nat} (hlink : Cond.fieldLink own index "TheodoliteRow$Adjustment" "datum" "I" ∈ Ts) (hdg : decode cc pc = .ok (.getfield index, 3)) (kk : zV X D nL cells slots (WX a g s) (pc + 3) lv (.int (gI s 3) :: st)) : zV X D nL cells slots (WX a g s) pc lv (.ref (a 2) :: st) :=
  z_get C hin 2 rfl rfl 4 (by decide) hlink rfl hdg kk
theorem zp0_datum (C : zC X D nL cc own Ts (zT g)) (hin : ∀ w ∈ u_ws RX0 TX0 6, w ∈ Ts) {index : Nat} (hlink : Cond.fieldLink own index "TheodoliteRow$Adjustment" "datum" "I" ∈ Ts) {v : Int32} (hdg : decode cc pc = .ok (.putfield index, 3)) (kk : zV X D nL cells slots (WX a g (sI s 3 v)) (pc + 3) lv (st)) : zV X D nL cells slots (WX a g s) pc lv (.int v :: .ref (a 2) :: st) :=
  z_put (ci := 0) (fs := [.ref (a 1), .ref (a 13), .ref (a 14), .int (gI s 2), .int (gI s 3), .long (gJ s 0)]) (ty := .int) (ws' := WX a g (sI s 3 v)) C hin tyX0 tyX0_ok nmX0 2 rfl rfl 4 (by decide) hlink rfl (by decide +kernel) rfl rfl (Nat.le_of_ble_eq_true rfl) hdg rfl kk
theorem zg0_treeWeight (C : zC X D nL cc own Ts (zT g)) (hin : ∀ w ∈ u_ws RX0 TX0 6, w ∈ Ts) {index : Nat} (hlink : Cond.fieldLink own index "TheodoliteRow$Adjustment" "treeWeight" "J" ∈ Ts) (hdg : decode cc pc = .ok (.getfield index, 3)) (kk : zV X D nL cells slots (WX a g s) (pc + 3) lv (.long (gJ s 0) :: st)) : zV X D nL cells slots (WX a g s) pc lv (.ref (a 2) :: st) :=
  z_get C hin 2 rfl rfl 5 (by decide) hlink rfl hdg kk
theorem zp0_treeWeight (C : zC X D nL cc own Ts (zT g)) (hin : ∀ w ∈ u_ws RX0 TX0 6, w ∈ Ts) {index : Nat} (hlink : Cond.fieldLink own index "TheodoliteRow$Adjustment" "treeWeight" "J" ∈ Ts) {v : Int64} (hdg : decode cc pc = .ok (.putfield index, 3)) (kk : zV X D nL cells slots (WX a g (sJ s 0 v)) (pc + 3) lv (st)) : zV X D nL cells slots (WX a g s) pc lv (.long v :: .ref (a 2) :: st) :=
  z_put (ci := 0) (fs := [.ref (a 1), .ref (a 13), .ref (a 14), .int (gI s 2), .int (gI s 3), .long (gJ s 0)]) (ty := .long) (ws' := WX a g (sJ s 0 v)) C hin tyX0 tyX0_ok nmX0 2 rfl rfl 5 (by decide) hlink rfl (by decide +kernel) rfl rfl (Nat.le_of_ble_eq_true rfl) hdg rfl kk
theorem zg3_net (C : zC X D nL cc own Ts (zT g)) (hin : ∀ w ∈ u_ws RX3 TX3 10, w ∈ Ts) {index : Nat} (hlink : Cond.fieldLink own index "TheodoliteRow$TreeWalk" "net" "LTheodoliteRow$Net;" ∈ Ts) (hdg : decode cc pc = .ok (.getfield index, 3)) (kk : zV X D nL cells slots (WX a g s) (pc + 3) lv (.ref (a 1) :: st)) : zV X D nL cells slots (WX a g s) pc lv (.ref (a 3) :: st) :=
  z_get C hin 3 rfl rfl 0 (by decide) hlink rfl hdg kk
theorem zg3_piece (C : zC X D nL cc own Ts (zT g)) (hin : ∀ w ∈ u_ws RX3 TX3 10, w ∈ Ts) {index : Nat} (hlink : Cond.fieldLink own index "TheodoliteRow$TreeWalk" "piece" "[[I" ∈ Ts) (hdg : decode cc pc = .ok (.getfield index, 3)) (kk : zV X D nL cells slots (WX a g s) (pc + 3) lv (.ref (a 20) :: st)) : zV X D nL cells slots (WX a g s) pc lv (.ref (a 3) :: st) :=
  z_get C hin 3 rfl rfl 1 (by decide) hlink rfl hdg kk
theorem zg3_rise (C : zC X D nL cc own Ts (zT g)) (hin : ∀ w ∈ u_ws RX3 TX3 10, w ∈ Ts) {index : Nat} (hlink : Cond.fieldLink own index "TheodoliteRow$TreeWalk" "rise" "[[I" ∈ Ts) (hdg : decode cc pc = .ok (.getfield index, 3)) (kk : zV X D nL cells slots (WX a g s) (pc + 3) lv (.ref (a 27) :: st)) : zV X D nL cells slots (WX a g s) pc lv (.ref (a 3) :: st) :=
  z_get C hin 3 rfl rfl 2 (by decide) hlink rfl hdg kk
theorem zg3_branches (C : zC X D nL cc own Ts (zT g)) (hin : ∀ w ∈ u_ws RX3 TX3 10, w ∈ Ts) {index : Nat} (hlink : Cond.fieldLink own index "TheodoliteRow$TreeWalk" "branches" "I" ∈ Ts) (hdg : decode cc pc = .ok (.getfield index, 3)) (kk : zV X D nL cells slots (WX a g s) (pc + 3) lv (.int (gI s 4) :: st)) : zV X D nL cells slots (WX a g s) pc lv (.ref (a 3) :: st) :=
  z_get C hin 3 rfl rfl 3 (by decide) hlink rfl hdg kk
theorem zp3_branches (C : zC X D nL cc own Ts (zT g)) (hin : ∀ w ∈ u_ws RX3 TX3 10, w ∈ Ts) {index : Nat} (hlink : Cond.fieldLink own index "TheodoliteRow$TreeWalk" "branches" "I" ∈ Ts) {v : Int32} (hdg : decode cc pc = .ok (.putfield index, 3)) (kk : zV X D nL cells slots (WX a g (sI s 4 v)) (pc + 3) lv (st)) : zV X D nL cells slots (WX a g s) pc lv (.int v :: .ref (a 3) :: st) :=
  z_put (ci := 3) (fs := [.ref (a 1), .ref (a 20), .ref (a 27), .int (gI s 4), .int (gI s 5), .int (gI s 6), .int (gI s 7), .long (gJ s 1), .long (gJ s 2), .long (gJ s 3)]) (ty := .int) (ws' := WX a g (sI s 4 v)) C hin tyX3 tyX3_ok nmX3 3 rfl rfl 3 (by decide) hlink rfl (by decide +kernel) rfl rfl (Nat.le_of_ble_eq_true rfl) hdg rfl kk
theorem zg3_datum (C : zC X D nL cc own Ts (zT g)) (hin : ∀ w ∈ u_ws RX3 TX3 10, w ∈ Ts) {index : Nat} (hlink : Cond.fieldLink own index "TheodoliteRow$TreeWalk" "datum" "I" ∈ Ts) (hdg : decode cc pc = .ok (.getfield index, 3)) (kk : zV X D nL cells slots (WX a g s) (pc + 3) lv (.int (gI s 5) :: st)) : zV X D nL cells slots (WX a g s) pc lv (.ref (a 3) :: st) :=
  z_get C hin 3 rfl rfl 4 (by decide) hlink rfl hdg kk
theorem zp3_datum (C : zC X D nL cc own Ts (zT g)) (hin : ∀ w ∈ u_ws RX3 TX3 10, w ∈ Ts) {index : Nat} (hlink : Cond.fieldLink own index "TheodoliteRow$TreeWalk" "datum" "I" ∈ Ts) {v : Int32} (hdg : decode cc pc = .ok (.putfield index, 3)) (kk : zV X D nL cells slots (WX a g (sI s 5 v)) (pc + 3) lv (st)) : zV X D nL cells slots (WX a g s) pc lv (.int v :: .ref (a 3) :: st) :=
  z_put (ci := 3) (fs := [.ref (a 1), .ref (a 20), .ref (a 27), .int (gI s 4), .int (gI s 5), .int (gI s 6), .int (gI s 7), .long (gJ s 1), .long (gJ s 2), .long (gJ s 3)]) (ty := .int) (ws' := WX a g (sI s 5 v)) C hin tyX3 tyX3_ok nmX3 3 rfl rfl 4 (by decide) hlink rfl (by decide +kernel) rfl rfl (Nat.le_of_ble_eq_true rfl) hdg rfl kk
theorem zg3_askedStation (C : zC X D nL cc own Ts (zT g)) (hin : ∀ w ∈ u_ws RX3 TX3 10, w ∈ Ts) {index : Nat} (hlink : Cond.fieldLink own index "TheodoliteRow$TreeWalk" "askedStation" "I" ∈ Ts) (hdg : decode cc pc = .ok (.getfield index, 3)) (kk : zV X D nL cells slots (WX a g s) (pc + 3) lv (.int (gI s 6) :: st)) : zV X D nL cells slots (WX a g s) pc lv (.ref (a 3) :: st) :=
  z_get C hin 3 rfl rfl 5 (by decide) hlink rfl hdg kk
theorem zp3_askedStation (C : zC X D nL cc own Ts (zT g)) (hin : ∀ w ∈ u_ws RX3 TX3 10, w ∈ Ts) {index : Nat} (hlink : Cond.fieldLink own index "TheodoliteRow$TreeWalk" "askedStation" "I" ∈ Ts) {v : Int32} (hdg : decode cc pc = .ok (.putfield index, 3)) (kk : zV X D nL cells slots (WX a g (sI s 6 v)) (pc + 3) lv (st)) : zV X D nL cells slots (WX a g s) pc lv (.int v :: .ref (a 3) :: st) :=
  z_put (ci := 3) (fs := [.ref (a 1), .ref (a 20), .ref (a 27), .int (gI s 4), .int (gI s 5), .int (gI s 6), .int (gI s 7), .long (gJ s 1), .long (gJ s 2), .long (gJ s 3)]) (ty := .int) (ws' := WX a g (sI s 6 v)) C hin tyX3 tyX3_ok nmX3 3 rfl rfl 5 (by decide) hlink rfl (by decide +kernel) rfl rfl (Nat.le_of_ble_eq_true rfl) hdg rfl kk
theorem zg3_askedObservation (C : zC X D nL cc own Ts (zT g)) (hin : ∀ w ∈ u_ws RX3 TX3 10, w ∈ Ts) {index : Nat} (hlink : Cond.fieldLink own index "TheodoliteRow$TreeWalk" "askedObservation" "I" ∈ Ts) (hdg : decode cc pc = .ok (.getfield index, 3)) (kk : zV X D nL cells slots (WX a g s) (pc + 3) lv (.int (gI s 7) :: st)) : zV X D nL cells slots (WX a g s) pc lv (.ref (a 3) :: st) :=
  z_get C hin 3 rfl rfl 6 (by decide) hlink rfl hdg kk
theorem zp3_askedObservation (C : zC X D nL cc own Ts (zT g)) (hin : ∀ w ∈ u_ws RX3 TX3 10, w ∈ Ts) {index : Nat} (hlink : Cond.fieldLink own index "TheodoliteRow$TreeWalk" "askedObservation" "I" ∈ Ts) {v : Int32} (hdg : decode cc pc = .ok (.putfield index, 3)) (kk : zV X D nL cells slots (WX a g (sI s 7 v)) (pc + 3) lv (st)) : zV X D nL cells slots (WX a g s) pc lv (.int v :: .ref (a 3) :: st) :=
  z_put (ci := 3) (fs := [.ref (a 1), .ref (a 20), .ref (a 27), .int (gI s 4), .int (gI s 5), .int (gI s 6), .int (gI s 7), .long (gJ s 1), .long (gJ s 2), .long (gJ s 3)]) (ty := .int) (ws' := WX a g (sI s 7 v)) C hin tyX3 tyX3_ok nmX3 3 rfl rfl 6 (by decide) hlink rfl (by decide +kernel) rfl rfl (Nat.le_of_ble_eq_true rfl) hdg rfl kk
theorem zg3_weightOfAll (C : zC X D nL cc own Ts (zT g)) (hin : ∀ w ∈ u_ws RX3 TX3 10, w ∈ Ts) {index : Nat} (hlink : Cond.fieldLink own index "TheodoliteRow$TreeWalk" "weightOfAll" "J" ∈ Ts) (hdg : decode cc pc = .ok (.getfield index, 3)) (kk : zV X D nL cells slots (WX a g s) (pc + 3) lv (.long (gJ s 1) :: st)) : zV X D nL cells slots (WX a g s) pc lv (.ref (a 3) :: st) :=
  z_get C hin 3 rfl rfl 7 (by decide) hlink rfl hdg kk
theorem zp3_weightOfAll (C : zC X D nL cc own Ts (zT g)) (hin : ∀ w ∈ u_ws RX3 TX3 10, w ∈ Ts) {index : Nat} (hlink : Cond.fieldLink own index "TheodoliteRow$TreeWalk" "weightOfAll" "J" ∈ Ts) {v : Int64} (hdg : decode cc pc = .ok (.putfield index, 3)) (kk : zV X D nL cells slots (WX a g (sJ s 1 v)) (pc + 3) lv (st)) : zV X D nL cells slots (WX a g s) pc lv (.long v :: .ref (a 3) :: st) :=
  z_put (ci := 3) (fs := [.ref (a 1), .ref (a 20), .ref (a 27), .int (gI s 4), .int (gI s 5), .int (gI s 6), .int (gI s 7), .long (gJ s 1), .long (gJ s 2), .long (gJ s 3)]) (ty := .long) (ws' := WX a g (sJ s 1 v)) C hin tyX3 tyX3_ok nmX3 3 rfl rfl 7 (by decide) hlink rfl (by decide +kernel) rfl rfl (Nat.le_of_ble_eq_true rfl) hdg rfl kk
theorem zg3_weightOfThoseWithAsked (C : zC X D nL cc own Ts (zT g)) (hin : ∀ w ∈ u_ws RX3 TX3 10, w ∈ Ts) {index : Nat} (hlink : Cond.fieldLink own index "TheodoliteRow$TreeWalk" "weightOfThoseWithAsked" "J" ∈ Ts) (hdg : decode cc pc = .ok (.getfield index, 3)) (kk : zV X D nL cells slots (WX a g s) (pc + 3) lv (.long (gJ s 2) :: st)) : zV X D nL cells slots (WX a g s) pc lv (.ref (a 3) :: st) :=
  z_get C hin 3 rfl rfl 8 (by decide) hlink rfl hdg kk
theorem zp3_weightOfThoseWithAsked (C : zC X D nL cc own Ts (zT g)) (hin : ∀ w ∈ u_ws RX3 TX3 10, w ∈ Ts) {index : Nat} (hlink : Cond.fieldLink own index "TheodoliteRow$TreeWalk" "weightOfThoseWithAsked" "J" ∈ Ts) {v : Int64} (hdg : decode cc pc = .ok (.putfield index, 3)) (kk : zV X D nL cells slots (WX a g (sJ s 2 v)) (pc + 3) lv (st)) : zV X D nL cells slots (WX a g s) pc lv (.long v :: .ref (a 3) :: st) :=
  z_put (ci := 3) (fs := [.ref (a 1), .ref (a 20), .ref (a 27), .int (gI s 4), .int (gI s 5), .int (gI s 6), .int (gI s 7), .long (gJ s 1), .long (gJ s 2), .long (gJ s 3)]) (ty := .long) (ws' := WX a g (sJ s 2 v)) C hin tyX3 tyX3_ok nmX3 3 rfl rfl 8 (by decide) hlink rfl (by decide +kernel) rfl rfl (Nat.le_of_ble_eq_true rfl) hdg rfl kk
theorem zg3_weightedRises (C : zC X D nL cc own Ts (zT g)) (hin : ∀ w ∈ u_ws RX3 TX3 10, w ∈ Ts) {index : Nat} (hlink : Cond.fieldLink own index "TheodoliteRow$TreeWalk" "weightedRises" "J" ∈ Ts) (hdg : decode cc pc = .ok (.getfield index, 3)) (kk : zV X D nL cells slots (WX a g s) (pc + 3) lv (.long (gJ s 3) :: st)) : zV X D nL cells slots (WX a g s) pc lv (.ref (a 3) :: st) :=
  z_get C hin 3 rfl rfl 9 (by decide) hlink rfl hdg kk
theorem zp3_weightedRises (C : zC X D nL cc own Ts (zT g)) (hin : ∀ w ∈ u_ws RX3 TX3 10, w ∈ Ts) {index : Nat} (hlink : Cond.fieldLink own index "TheodoliteRow$TreeWalk" "weightedRises" "J" ∈ Ts) {v : Int64} (hdg : decode cc pc = .ok (.putfield index, 3)) (kk : zV X D nL cells slots (WX a g (sJ s 3 v)) (pc + 3) lv (st)) : zV X D nL cells slots (WX a g s) pc lv (.long v :: .ref (a 3) :: st) :=
  z_put (ci := 3) (fs := [.ref (a 1), .ref (a 20), .ref (a 27), .int (gI s 4), .int (gI s 5), .int (gI s 6), .int (gI s 7), .long (gJ s 1), .long (gJ s 2), .long (gJ s 3)]) (ty := .long) (ws' := WX a g (sJ s 3 v)) C hin tyX3 tyX3_ok nmX3 3 rfl rfl 9 (by decide) hlink rfl (by decide +kernel) rfl rfl (Nat.le_of_ble_eq_true rfl) hdg rfl kk
theorem zg2_length (C : zC X D nL cc own Ts (zT g)) (hin : ∀ w ∈ u_ws RX2 TX2 4, w ∈ Ts) {index : Nat} (hlink : Cond.fieldLink own index "TheodoliteRow$Path" "length" "I" ∈ Ts) (hdg : decode cc pc = .ok (.getfield index, 3)) (kk : zV X D nL cells slots (WX a g s) (pc + 3) lv (.int (gI s 8) :: st)) : zV X D nL cells slots (WX a g s) pc lv (.ref (a 4) :: st) :=
  z_get C hin 4 rfl rfl 0 (by decide) hlink rfl hdg kk
theorem zp2_length (C : zC X D nL cc own Ts (zT g)) (hin : ∀ w ∈ u_ws RX2 TX2 4, w ∈ Ts) {index : Nat} (hlink : Cond.fieldLink own index "TheodoliteRow$Path" "length" "I" ∈ Ts) {v : Int32} (hdg : decode cc pc = .ok (.putfield index, 3)) (kk : zV X D nL cells slots (WX a g (sI s 8 v)) (pc + 3) lv (st)) : zV X D nL cells slots (WX a g s) pc lv (.int v :: .ref (a 4) :: st) :=
  z_put (ci := 2) (fs := [.int (gI s 8), .int (gI s 9), .int (gI s 10), .int (gI s 11)]) (ty := .int) (ws' := WX a g (sI s 8 v)) C hin tyX2 tyX2_ok nmX2 4 rfl rfl 0 (by decide) hlink rfl (by decide +kernel) rfl rfl (Nat.le_of_ble_eq_true rfl) hdg rfl kk
theorem zg2_first (C : zC X D nL cc own Ts (zT g)) (hin : ∀ w ∈ u_ws RX2 TX2 4, w ∈ Ts) {index : Nat} (hlink : Cond.fieldLink own index "TheodoliteRow$Path" "first" "I" ∈ Ts) (hdg : decode cc pc = .ok (.getfield index, 3)) (kk : zV X D nL cells slots (WX a g s) (pc + 3) lv (.int (gI s 9) :: st)) : zV X D nL cells slots (WX a g s) pc lv (.ref (a 4) :: st) :=
  z_get C hin 4 rfl rfl 1 (by decide) hlink rfl hdg kk
theorem zp2_first (C : zC X D nL cc own Ts (zT g)) (hin : ∀ w ∈ u_ws RX2 TX2 4, w ∈ Ts) {index : Nat} (hlink : Cond.fieldLink own index "TheodoliteRow$Path" "first" "I" ∈ Ts) {v : Int32} (hdg : decode cc pc = .ok (.putfield index, 3)) (kk : zV X D nL cells slots (WX a g (sI s 9 v)) (pc + 3) lv (st)) : zV X D nL cells slots (WX a g s) pc lv (.int v :: .ref (a 4) :: st) :=
  z_put (ci := 2) (fs := [.int (gI s 8), .int (gI s 9), .int (gI s 10), .int (gI s 11)]) (ty := .int) (ws' := WX a g (sI s 9 v)) C hin tyX2 tyX2_ok nmX2 4 rfl rfl 1 (by decide) hlink rfl (by decide +kernel) rfl rfl (Nat.le_of_ble_eq_true rfl) hdg rfl kk
theorem zg2_last (C : zC X D nL cc own Ts (zT g)) (hin : ∀ w ∈ u_ws RX2 TX2 4, w ∈ Ts) {index : Nat} (hlink : Cond.fieldLink own index "TheodoliteRow$Path" "last" "I" ∈ Ts) (hdg : decode cc pc = .ok (.getfield index, 3)) (kk : zV X D nL cells slots (WX a g s) (pc + 3) lv (.int (gI s 10) :: st)) : zV X D nL cells slots (WX a g s) pc lv (.ref (a 4) :: st) :=
  z_get C hin 4 rfl rfl 2 (by decide) hlink rfl hdg kk
theorem zp2_last (C : zC X D nL cc own Ts (zT g)) (hin : ∀ w ∈ u_ws RX2 TX2 4, w ∈ Ts) {index : Nat} (hlink : Cond.fieldLink own index "TheodoliteRow$Path" "last" "I" ∈ Ts) {v : Int32} (hdg : decode cc pc = .ok (.putfield index, 3)) (kk : zV X D nL cells slots (WX a g (sI s 10 v)) (pc + 3) lv (st)) : zV X D nL cells slots (WX a g s) pc lv (.int v :: .ref (a 4) :: st) :=
  z_put (ci := 2) (fs := [.int (gI s 8), .int (gI s 9), .int (gI s 10), .int (gI s 11)]) (ty := .int) (ws' := WX a g (sI s 10 v)) C hin tyX2 tyX2_ok nmX2 4 rfl rfl 2 (by decide) hlink rfl (by decide +kernel) rfl rfl (Nat.le_of_ble_eq_true rfl) hdg rfl kk
theorem zg2_total (C : zC X D nL cc own Ts (zT g)) (hin : ∀ w ∈ u_ws RX2 TX2 4, w ∈ Ts) {index : Nat} (hlink : Cond.fieldLink own index "TheodoliteRow$Path" "total" "I" ∈ Ts) (hdg : decode cc pc = .ok (.getfield index, 3)) (kk : zV X D nL cells slots (WX a g s) (pc + 3) lv (.int (gI s 11) :: st)) : zV X D nL cells slots (WX a g s) pc lv (.ref (a 4) :: st) :=
  z_get C hin 4 rfl rfl 3 (by decide) hlink rfl hdg kk
theorem zp2_total (C : zC X D nL cc own Ts (zT g)) (hin : ∀ w ∈ u_ws RX2 TX2 4, w ∈ Ts) {index : Nat} (hlink : Cond.fieldLink own index "TheodoliteRow$Path" "total" "I" ∈ Ts) {v : Int32} (hdg : decode cc pc = .ok (.putfield index, 3)) (kk : zV X D nL cells slots (WX a g (sI s 11 v)) (pc + 3) lv (st)) : zV X D nL cells slots (WX a g s) pc lv (.int v :: .ref (a 4) :: st) :=
  z_put (ci := 2) (fs := [.int (gI s 8), .int (gI s 9), .int (gI s 10), .int (gI s 11)]) (ty := .int) (ws' := WX a g (sI s 11 v)) C hin tyX2 tyX2_ok nmX2 4 rfl rfl 3 (by decide) hlink rfl (by decide +kernel) rfl rfl (Nat.le_of_ble_eq_true rfl) hdg rfl kk
theorem zl1_isTold (C : zC X D nL cc own Ts (zT g)) {i : Int32} (hi : vp_in i 6) (hdg : decode cc pc = .ok (.baload, 1)) (kk : zV X D nL cells slots (WX a g s) (pc + 1) lv (.int (gF s 0 (ix i)) :: st)) : zV X D nL cells slots (WX a g s) pc lv (.int i :: .ref (a 5) :: st) :=
  z_zald C 5 1 rfl rfl hi hdg kk
theorem zs1_isTold (C : zC X D nL cc own Ts (zT g)) {i : Int32} {v : Int32} (hi : vp_in i 6) (hdg : decode cc pc = .ok (.bastore, 1)) (kk : zV X D nL cells slots (WX a g (sF s 0 (ix i) (vp_nar .boolean v))) (pc + 1) lv (st)) : zV X D nL cells slots (WX a g s) pc lv (.int v :: .int i :: .ref (a 5) :: st) :=
  z_zast (ws' := WX a g (sF s 0 (ix i) (vp_nar .boolean v))) C 5 1 rfl rfl hi hdg rfl kk
theorem zl1_toldHeight (C : zC X D nL cc own Ts (zT g)) {i : Int32} (hi : vp_in i 6) (hdg : decode cc pc = .ok (.iaload, 1)) (kk : zV X D nL cells slots (WX a g s) (pc + 1) lv (.int (gF s 1 (ix i)) :: st)) : zV X D nL cells slots (WX a g s) pc lv (.int i :: .ref (a 6) :: st) :=
  z_iald C 6 0 rfl rfl hi hdg kk
theorem zs1_toldHeight (C : zC X D nL cc own Ts (zT g)) {i : Int32} {v : Int32} (hi : vp_in i 6) (hdg : decode cc pc = .ok (.iastore, 1)) (kk : zV X D nL cells slots (WX a g (sF s 1 (ix i) v)) (pc + 1) lv (st)) : zV X D nL cells slots (WX a g s) pc lv (.int v :: .int i :: .ref (a 6) :: st) :=
  z_iast (ws' := WX a g (sF s 1 (ix i) v)) C 6 0 rfl rfl hi hdg rfl kk
theorem zl1_lowest (C : zC X D nL cc own Ts (zT g)) {i : Int32} (hi : vp_in i 6) (hdg : decode cc pc = .ok (.iaload, 1)) (kk : zV X D nL cells slots (WX a g s) (pc + 1) lv (.int (gF s 2 (ix i)) :: st)) : zV X D nL cells slots (WX a g s) pc lv (.int i :: .ref (a 7) :: st) :=
  z_iald C 7 0 rfl rfl hi hdg kk
theorem zs1_lowest (C : zC X D nL cc own Ts (zT g)) {i : Int32} {v : Int32} (hi : vp_in i 6) (hdg : decode cc pc = .ok (.iastore, 1)) (kk : zV X D nL cells slots (WX a g (sF s 2 (ix i) v)) (pc + 1) lv (st)) : zV X D nL cells slots (WX a g s) pc lv (.int v :: .int i :: .ref (a 7) :: st) :=
  z_iast (ws' := WX a g (sF s 2 (ix i) v)) C 7 0 rfl rfl hi hdg rfl kk
theorem zl1_from (C : zC X D nL cc own Ts (zT g)) {i : Int32} (hi : vp_in i 14) (hdg : decode cc pc = .ok (.iaload, 1)) (kk : zV X D nL cells slots (WX a g s) (pc + 1) lv (.int (gF s 3 (ix i)) :: st)) : zV X D nL cells slots (WX a g s) pc lv (.int i :: .ref (a 8) :: st) :=
  z_iald C 8 0 rfl rfl hi hdg kk
theorem zs1_from (C : zC X D nL cc own Ts (zT g)) {i : Int32} {v : Int32} (hi : vp_in i 14) (hdg : decode cc pc = .ok (.iastore, 1)) (kk : zV X D nL cells slots (WX a g (sF s 3 (ix i) v)) (pc + 1) lv (st)) : zV X D nL cells slots (WX a g s) pc lv (.int v :: .int i :: .ref (a 8) :: st) :=
  z_iast (ws' := WX a g (sF s 3 (ix i) v)) C 8 0 rfl rfl hi hdg rfl kk
theorem zl1_to (C : zC X D nL cc own Ts (zT g)) {i : Int32} (hi : vp_in i 14) (hdg : decode cc pc = .ok (.iaload, 1)) (kk : zV X D nL cells slots (WX a g s) (pc + 1) lv (.int (gF s 4 (ix i)) :: st)) : zV X D nL cells slots (WX a g s) pc lv (.int i :: .ref (a 9) :: st) :=
  z_iald C 9 0 rfl rfl hi hdg kk
theorem zs1_to (C : zC X D nL cc own Ts (zT g)) {i : Int32} {v : Int32} (hi : vp_in i 14) (hdg : decode cc pc = .ok (.iastore, 1)) (kk : zV X D nL cells slots (WX a g (sF s 4 (ix i) v)) (pc + 1) lv (st)) : zV X D nL cells slots (WX a g s) pc lv (.int v :: .int i :: .ref (a 9) :: st) :=
  z_iast (ws' := WX a g (sF s 4 (ix i) v)) C 9 0 rfl rfl hi hdg rfl kk
theorem zl1_difference (C : zC X D nL cc own Ts (zT g)) {i : Int32} (hi : vp_in i 14) (hdg : decode cc pc = .ok (.iaload, 1)) (kk : zV X D nL cells slots (WX a g s) (pc + 1) lv (.int (gF s 5 (ix i)) :: st)) : zV X D nL cells slots (WX a g s) pc lv (.int i :: .ref (a 10) :: st) :=
  z_iald C 10 0 rfl rfl hi hdg kk
theorem zs1_difference (C : zC X D nL cc own Ts (zT g)) {i : Int32} {v : Int32} (hi : vp_in i 14) (hdg : decode cc pc = .ok (.iastore, 1)) (kk : zV X D nL cells slots (WX a g (sF s 5 (ix i) v)) (pc + 1) lv (st)) : zV X D nL cells slots (WX a g s) pc lv (.int v :: .int i :: .ref (a 10) :: st) :=
  z_iast (ws' := WX a g (sF s 5 (ix i) v)) C 10 0 rfl rfl hi hdg rfl kk
theorem zl1_weight (C : zC X D nL cc own Ts (zT g)) {i : Int32} (hi : vp_in i 14) (hdg : decode cc pc = .ok (.iaload, 1)) (kk : zV X D nL cells slots (WX a g s) (pc + 1) lv (.int (gF s 6 (ix i)) :: st)) : zV X D nL cells slots (WX a g s) pc lv (.int i :: .ref (a 11) :: st) :=
  z_iald C 11 0 rfl rfl hi hdg kk
theorem zs1_weight (C : zC X D nL cc own Ts (zT g)) {i : Int32} {v : Int32} (hi : vp_in i 14) (hdg : decode cc pc = .ok (.iastore, 1)) (kk : zV X D nL cells slots (WX a g (sF s 6 (ix i) v)) (pc + 1) lv (st)) : zV X D nL cells slots (WX a g s) pc lv (.int v :: .int i :: .ref (a 11) :: st) :=
  z_iast (ws' := WX a g (sF s 6 (ix i) v)) C 11 0 rfl rfl hi hdg rfl kk
theorem zl1_isWithdrawn (C : zC X D nL cc own Ts (zT g)) {i : Int32} (hi : vp_in i 14) (hdg : decode cc pc = .ok (.baload, 1)) (kk : zV X D nL cells slots (WX a g s) (pc + 1) lv (.int (gF s 7 (ix i)) :: st)) : zV X D nL cells slots (WX a g s) pc lv (.int i :: .ref (a 12) :: st) :=
  z_zald C 12 1 rfl rfl hi hdg kk
theorem zs1_isWithdrawn (C : zC X D nL cc own Ts (zT g)) {i : Int32} {v : Int32} (hi : vp_in i 14) (hdg : decode cc pc = .ok (.bastore, 1)) (kk : zV X D nL cells slots (WX a g (sF s 7 (ix i) (vp_nar .boolean v))) (pc + 1) lv (st)) : zV X D nL cells slots (WX a g s) pc lv (.int v :: .int i :: .ref (a 12) :: st) :=
  z_zast (ws' := WX a g (sF s 7 (ix i) (vp_nar .boolean v))) C 12 1 rfl rfl hi hdg rfl kk
theorem zl0_rowOf (C : zC X D nL cc own Ts (zT g)) {i : Int32} (hi : vp_in i 6) (hdg : decode cc pc = .ok (.iaload, 1)) (kk : zV X D nL cells slots (WX a g s) (pc + 1) lv (.int (gF s 8 (ix i)) :: st)) : zV X D nL cells slots (WX a g s) pc lv (.int i :: .ref (a 13) :: st) :=
  z_iald C 13 0 rfl rfl hi hdg kk
theorem zs0_rowOf (C : zC X D nL cc own Ts (zT g)) {i : Int32} {v : Int32} (hi : vp_in i 6) (hdg : decode cc pc = .ok (.iastore, 1)) (kk : zV X D nL cells slots (WX a g (sF s 8 (ix i) v)) (pc + 1) lv (st)) : zV X D nL cells slots (WX a g s) pc lv (.int v :: .int i :: .ref (a 13) :: st) :=
  z_iast (ws' := WX a g (sF s 8 (ix i) v)) C 13 0 rfl rfl hi hdg rfl kk
theorem zr0_cells (C : zC X D nL cc own Ts (zT g)) {i : Int32} (hi : vp_in i 5) (hdg : decode cc pc = .ok (.aaload, 1)) (kk : zV X D nL cells slots (WX a g s) (pc + 1) lv (.ref (a (14 + 1 + ix i)) :: st)) : zV X D nL cells slots (WX a g s) pc lv (.int i :: .ref (a 14) :: st) := by
  refine z_aald C 14 4 rfl rfl hi hdg ?_
  have hlt : i.toNatClampNeg < 5 := Nat.not_le.mp fun q => hi (Or.inr q)
  rw [show va_rf (if i.toNatClampNeg < 5 then some (a (14 + 1 + i.toNatClampNeg)) else none) = .ref (a (14 + 1 + i.toNatClampNeg)) by rw [if_pos hlt]; rfl]
  exact kk
theorem zc0_cells (r : Nat) (hr : r < 5) : (WX a g s)[14 + 1 + r]? = some (a (14 + 1 + r), .inl (g 2, 6, .inr (.inl (gL s (0 + r))))) := by
  rcases (show r = 0 ∨ r = 1 ∨ r = 2 ∨ r = 3 ∨ r = 4 by omega) with rfl | rfl | rfl | rfl | rfl <;> rfl
theorem zu0_cells (r : Nat) (hr : r < 5) (i : Nat) (v : Int64) : (WX a g s).set (14 + 1 + r) (a (14 + 1 + r), .inl (g 2, 6, .inr (.inl (vp_updL (gL s (0 + r)) i v)))) = WX a g (sL s (0 + r) i v) := by
  rcases (show r = 0 ∨ r = 1 ∨ r = 2 ∨ r = 3 ∨ r = 4 by omega) with rfl | rfl | rfl | rfl | rfl <;> rfl
theorem zl0_cells (C : zC X D nL cc own Ts (zT g)) (r : Nat) (hr : r < 5) {i : Int32} (hi : vp_in i 6) (hdg : decode cc pc = .ok (.laload, 1)) (kk : zV X D nL cells slots (WX a g s) (pc + 1) lv (.long (gL s (0 + r) (ix i)) :: st)) : zV X D nL cells slots (WX a g s) pc lv (.int i :: .ref (a (14 + 1 + r)) :: st) :=
  z_lald C (14 + 1 + r) 2 (zc0_cells r hr) rfl hi hdg kk
theorem zs0_cells (C : zC X D nL cc own Ts (zT g)) (r : Nat) (hr : r < 5) {i : Int32} {v : Int64} (hi : vp_in i 6) (hdg : decode cc pc = .ok (.lastore, 1)) (kk : zV X D nL cells slots (WX a g (sL s (0 + r) (ix i) v)) (pc + 1) lv (st)) : zV X D nL cells slots (WX a g s) pc lv (.long v :: .int i :: .ref (a (14 + 1 + r)) :: st) :=
  z_last C (14 + 1 + r) 2 (zc0_cells r hr) rfl hi hdg (zu0_cells r hr _ _) kk
theorem zr3_piece (C : zC X D nL cc own Ts (zT g)) {i : Int32} (hi : vp_in i 6) (hdg : decode cc pc = .ok (.aaload, 1)) (kk : zV X D nL cells slots (WX a g s) (pc + 1) lv (.ref (a (20 + 1 + ix i)) :: st)) : zV X D nL cells slots (WX a g s) pc lv (.int i :: .ref (a 20) :: st) := by
  refine z_aald C 20 3 rfl rfl hi hdg ?_
  have hlt : i.toNatClampNeg < 6 := Nat.not_le.mp fun q => hi (Or.inr q)
  rw [show va_rf (if i.toNatClampNeg < 6 then some (a (20 + 1 + i.toNatClampNeg)) else none) = .ref (a (20 + 1 + i.toNatClampNeg)) by rw [if_pos hlt]; rfl]
  exact kk
theorem zc3_piece (r : Nat) (hr : r < 6) : (WX a g s)[20 + 1 + r]? = some (a (20 + 1 + r), .inl (g 0, 6, .inl (gF s (9 + r)))) := by
  rcases (show r = 0 ∨ r = 1 ∨ r = 2 ∨ r = 3 ∨ r = 4 ∨ r = 5 by omega) with rfl | rfl | rfl | rfl | rfl | rfl <;> rfl
theorem zu3_piece (r : Nat) (hr : r < 6) (i : Nat) (v : Int32) : (WX a g s).set (20 + 1 + r) (a (20 + 1 + r), .inl (g 0, 6, .inl (upd (gF s (9 + r)) i v))) = WX a g (sF s (9 + r) i v) := by
  rcases (show r = 0 ∨ r = 1 ∨ r = 2 ∨ r = 3 ∨ r = 4 ∨ r = 5 by omega) with rfl | rfl | rfl | rfl | rfl | rfl <;> rfl
theorem zl3_piece (C : zC X D nL cc own Ts (zT g)) (r : Nat) (hr : r < 6) {i : Int32} (hi : vp_in i 6) (hdg : decode cc pc = .ok (.iaload, 1)) (kk : zV X D nL cells slots (WX a g s) (pc + 1) lv (.int (gF s (9 + r) (ix i)) :: st)) : zV X D nL cells slots (WX a g s) pc lv (.int i :: .ref (a (20 + 1 + r)) :: st) :=
  z_iald C (20 + 1 + r) 0 (zc3_piece r hr) rfl hi hdg kk
theorem zs3_piece (C : zC X D nL cc own Ts (zT g)) (r : Nat) (hr : r < 6) {i : Int32} {v : Int32} (hi : vp_in i 6) (hdg : decode cc pc = .ok (.iastore, 1)) (kk : zV X D nL cells slots (WX a g (sF s (9 + r) (ix i) v)) (pc + 1) lv (st)) : zV X D nL cells slots (WX a g s) pc lv (.int v :: .int i :: .ref (a (20 + 1 + r)) :: st) :=
  z_iast C (20 + 1 + r) 0 (zc3_piece r hr) rfl hi hdg (zu3_piece r hr _ _) kk
theorem zr3_rise (C : zC X D nL cc own Ts (zT g)) {i : Int32} (hi : vp_in i 6) (hdg : decode cc pc = .ok (.aaload, 1)) (kk : zV X D nL cells slots (WX a g s) (pc + 1) lv (.ref (a (27 + 1 + ix i)) :: st)) : zV X D nL cells slots (WX a g s) pc lv (.int i :: .ref (a 27) :: st) := by
  refine z_aald C 27 3 rfl rfl hi hdg ?_
  have hlt : i.toNatClampNeg < 6 := Nat.not_le.mp fun q => hi (Or.inr q)
  rw [show va_rf (if i.toNatClampNeg < 6 then some (a (27 + 1 + i.toNatClampNeg)) else none) = .ref (a (27 + 1 + i.toNatClampNeg)) by rw [if_pos hlt]; rfl]
  exact kk
theorem zc3_rise (r : Nat) (hr : r < 6) : (WX a g s)[27 + 1 + r]? = some (a (27 + 1 + r), .inl (g 0, 6, .inl (gF s (15 + r)))) := by
  rcases (show r = 0 ∨ r = 1 ∨ r = 2 ∨ r = 3 ∨ r = 4 ∨ r = 5 by omega) with rfl | rfl | rfl | rfl | rfl | rfl <;> rfl
theorem zu3_rise (r : Nat) (hr : r < 6) (i : Nat) (v : Int32) : (WX a g s).set (27 + 1 + r) (a (27 + 1 + r), .inl (g 0, 6, .inl (upd (gF s (15 + r)) i v))) = WX a g (sF s (15 + r) i v) := by
  rcases (show r = 0 ∨ r = 1 ∨ r = 2 ∨ r = 3 ∨ r = 4 ∨ r = 5 by omega) with rfl | rfl | rfl | rfl | rfl | rfl <;> rfl
theorem zl3_rise (C : zC X D nL cc own Ts (zT g)) (r : Nat) (hr : r < 6) {i : Int32} (hi : vp_in i 6) (hdg : decode cc pc = .ok (.iaload, 1)) (kk : zV X D nL cells slots (WX a g s) (pc + 1) lv (.int (gF s (15 + r) (ix i)) :: st)) : zV X D nL cells slots (WX a g s) pc lv (.int i :: .ref (a (27 + 1 + r)) :: st) :=
  z_iald C (27 + 1 + r) 0 (zc3_rise r hr) rfl hi hdg kk
theorem zs3_rise (C : zC X D nL cc own Ts (zT g)) (r : Nat) (hr : r < 6) {i : Int32} {v : Int32} (hi : vp_in i 6) (hdg : decode cc pc = .ok (.iastore, 1)) (kk : zV X D nL cells slots (WX a g (sF s (15 + r) (ix i) v)) (pc + 1) lv (st)) : zV X D nL cells slots (WX a g s) pc lv (.int v :: .int i :: .ref (a (27 + 1 + r)) :: st) :=
  z_iast C (27 + 1 + r) 0 (zc3_rise r hr) rfl hi hdg (zu3_rise r hr _ _) kk
theorem z_topsWX (k : ∀ s2 : zS, s2 = s → zV X D nL cells slots (WX a g s2) pc lv st) : zV X D nL cells slots (WX a g s) pc lv st := k s rfl
theorem z_lt {i : Int32} {n : Nat} (hi : vp_in i n) : ix i < n := Nat.not_le.mp fun q => hi (Or.inr q)
end ZW

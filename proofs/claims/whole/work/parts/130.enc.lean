/-! the cells by a state: A: ints, by cell and place; B: longs; f: the row of images; n: how many images were made -/
abbrev eA : Type := Nat → Nat → Int32
abbrev eB : Type := Nat → Nat → Int64
/-- the row of kinds, at the cell k -/
def ekf (k : Nat) : Nat → Option Nat := va_up (va_up (va_up (va_up (va_up (va_up (fun _ => none) 0 (some (k + 1))) 1 (some (k + 2))) 2 (some (k + 3))) 3 (some (k + 4))) 4 (some (k + 5))) 5 (some (k + 6))
def erf : Nat → Option Nat := fun j => if j < 6 then some (50 + j) else none
def eup (A : eA) (k j : Nat) (x : Int32) : eA := fun i => if i = k then upd (A k) j x else A i
def eupB (B : eB) (k j : Nat) (x : Int64) : eB := fun i => if i = k then vp_updL (B k) j x else B i
/-- a whole row anew -/
def erow (A : eA) (k : Nat) (r : Nat → Int32) : eA := fun i => if i = k then r else A i
def elife (A : eA) (b : Nat) : List qC := [.inr (.inr (2, [.ref (b + 1), .ref (b + 8), .ref (b + 9), .ref (b + 10), .int (A b 4), .int (A b 5), .ref (b + 11), .ref (b + 12), .int (A b 8), .ref (b + 13), .ref (b + 19)])),
  .inr (.inl (0, 6, ekf (b + 1))),
  .inr (.inr (5, [])),
  .inr (.inr (7, [])),
  .inr (.inr (6, [])),
  .inr (.inr (1, [])),
  .inr (.inr (9, [])),
  .inr (.inr (10, [])),
  .inl (0, 3, A (b + 8)),
  .inl (0, 3, A (b + 9)),
  .inl (0, 7, A (b + 10)),
  .inl (0, 10, A (b + 11)),
  .inl (0, 120, A (b + 12)),
  .inr (.inr (0, [.ref (b + 14), .int (A (b + 13) 1), .ref (b + 15), .ref (b + 16), .ref (b + 17), .ref (b + 18)])),
  .inl (0, 60, A (b + 14)),
  .inl (0, 32, A (b + 15)),
  .inl (0, 4, A (b + 16)),
  .inl (0, 4, A (b + 17)),
  .inl (0, 3, A (b + 18)),
  .inr (.inr (8, [.ref (b + 20), .ref (b + 21), .ref (b + 22)])),
  .inl (0, 8, A (b + 20)),
  .inl (0, 2, A (b + 21)),
  .inl (0, 256, A (b + 22))]
def etail (A : eA) (n : Nat) : List qC := match n with
  | 0 => []
  | 1 => elife A 74
  | _ => elife A 74 ++ elife A 97
def enc (A : eA) (B : eB) (f : Nat → Option Nat) (n : Nat) : qH :=
  (.inr (.inr (11, [.ref 1, .ref 24, .ref 47, .ref 48, .ref 59, .long (B 0 5), .long (B 0 6), .int (A 0 7), .int (A 0 8), .int (A 0 9)]))) ::
  (.inr (.inr (2, [.ref 2, .ref 9, .ref 10, .ref 11, .int (A 1 4), .int (A 1 5), .ref 12, .ref 13, .int (A 1 8), .ref 14, .ref 20]))) ::
  (.inr (.inl (0, 6, ekf 2))) ::
  (.inr (.inr (5, []))) ::
  (.inr (.inr (7, []))) ::
  (.inr (.inr (6, []))) ::
  (.inr (.inr (1, []))) ::
  (.inr (.inr (9, []))) ::
  (.inr (.inr (10, []))) ::
  (.inl (0, 3, A 9)) ::
  (.inl (0, 3, A 10)) ::
  (.inl (0, 7, A 11)) ::
  (.inl (0, 10, A 12)) ::
  (.inl (0, 120, A 13)) ::
  (.inr (.inr (0, [.ref 15, .int (A 14 1), .ref 16, .ref 17, .ref 18, .ref 19]))) ::
  (.inl (0, 60, A 15)) ::
  (.inl (0, 32, A 16)) ::
  (.inl (0, 4, A 17)) ::
  (.inl (0, 4, A 18)) ::
  (.inl (0, 3, A 19)) ::
  (.inr (.inr (8, [.ref 21, .ref 22, .ref 23]))) ::
  (.inl (0, 8, A 21)) ::
  (.inl (0, 2, A 22)) ::
  (.inl (0, 256, A 23)) ::
  (.inr (.inr (2, [.ref 25, .ref 32, .ref 33, .ref 34, .int (A 24 4), .int (A 24 5), .ref 35, .ref 36, .int (A 24 8), .ref 37, .ref 43]))) ::
  (.inr (.inl (0, 6, ekf 25))) ::
  (.inr (.inr (5, []))) ::
  (.inr (.inr (7, []))) ::
  (.inr (.inr (6, []))) ::
  (.inr (.inr (1, []))) ::
  (.inr (.inr (9, []))) ::
  (.inr (.inr (10, []))) ::
  (.inl (0, 3, A 32)) ::
  (.inl (0, 3, A 33)) ::
  (.inl (0, 7, A 34)) ::
  (.inl (0, 10, A 35)) ::
  (.inl (0, 120, A 36)) ::
  (.inr (.inr (0, [.ref 38, .int (A 37 1), .ref 39, .ref 40, .ref 41, .ref 42]))) ::
  (.inl (0, 60, A 38)) ::
  (.inl (0, 32, A 39)) ::
  (.inl (0, 4, A 40)) ::
  (.inl (0, 4, A 41)) ::
  (.inl (0, 3, A 42)) ::
  (.inr (.inr (8, [.ref 44, .ref 45, .ref 46]))) ::
  (.inl (0, 8, A 44)) ::
  (.inl (0, 2, A 45)) ::
  (.inl (0, 256, A 46)) ::
  (.inr (.inl (1, 2, f))) ::
  (.inr (.inr (4, [.ref 49, .ref 56, .ref 57, .ref 58, .int (A 48 4), .int (A 48 5), .int (A 48 6), .int (A 48 7), .int (A 48 8), .int (A 48 9), .int (A 48 10)]))) ::
  (.inr (.inl (2, 6, erf))) ::
  (.inl (0, 10, A 50)) ::
  (.inl (0, 10, A 51)) ::
  (.inl (0, 10, A 52)) ::
  (.inl (0, 10, A 53)) ::
  (.inl (0, 10, A 54)) ::
  (.inl (0, 10, A 55)) ::
  (.inl (0, 5, A 56)) ::
  (.inl (0, 5, A 57)) ::
  (.inl (0, 4, A 58)) ::
  (.inr (.inr (3, [.ref 60, .int (A 59 1), .int (A 59 2), .int (A 59 3), .int (A 59 4), .int (A 59 5), .int (A 59 6), .int (A 59 7), .int (A 59 8), .int (A 59 9), .int (A 59 10), .int (A 59 11)]))) ::
  (.inl (0, 200, A 60)) ::
  (.inr (.inr (12, [.ref 62, .ref 63, .ref 64, .ref 65, .ref 66, .int (A 61 5), .long (B 61 6), .long (B 61 7), .ref 67, .ref 68, .ref 69, .ref 70, .ref 71, .ref 72, .int (A 61 14), .int (A 61 15), .int (A 61 16), .int (A 61 17), .int (A 61 18), .long (B 61 19), .int (A 61 20), .ref 73, .int (A 61 22)]))) ::
  (.inl (0, 253, A 62)) ::
  (.inl (0, 506, A 63)) ::
  (.inl (1, 2, A 64)) ::
  (.inl (0, 253, A 65)) ::
  (.inl (0, 3, A 66)) ::
  (.inl (0, 10, A 67)) ::
  (.inl (0, 5, A 68)) ::
  (.inl (0, 5, A 69)) ::
  (.inl (0, 3, A 70)) ::
  (.inl (0, 512, A 71)) ::
  (.inl (0, 200, A 72)) ::
  (.inl (0, 250, A 73)) ::
  etail A n
section EN
variable (A : eA) (B : eB) (f : Nat → Option Nat) (n : Nat)
theorem e_cl_0 : qcl 11 0 (enc A B f n) = some ((), enc A B f n) := rfl
theorem e_g_0_0 : gR 11 0 0 (enc A B f n) = some (1, enc A B f n) := rfl
theorem e_g_0_1 : gR 11 0 1 (enc A B f n) = some (24, enc A B f n) := rfl
theorem e_g_0_2 : gR 11 0 2 (enc A B f n) = some (47, enc A B f n) := rfl
theorem e_g_0_3 : gR 11 0 3 (enc A B f n) = some (48, enc A B f n) := rfl
theorem e_g_0_4 : gR 11 0 4 (enc A B f n) = some (59, enc A B f n) := rfl
theorem e_g_0_5 : gL 11 0 5 (enc A B f n) = some (B 0 5, enc A B f n) := rfl
theorem e_p_0_5 (x : Int64) : pV 11 0 5 (.long x) (enc A B f n) = some ((), enc A (eupB B 0 5 x) f n) := by cases n with | zero => rfl | succ n => cases n <;> rfl
theorem e_g_0_6 : gL 11 0 6 (enc A B f n) = some (B 0 6, enc A B f n) := rfl
theorem e_p_0_6 (x : Int64) : pV 11 0 6 (.long x) (enc A B f n) = some ((), enc A (eupB B 0 6 x) f n) := by cases n with | zero => rfl | succ n => cases n <;> rfl
theorem e_g_0_7 : gI 11 0 7 (enc A B f n) = some (A 0 7, enc A B f n) := rfl
theorem e_p_0_7 (x : Int32) : pV 11 0 7 (.int x) (enc A B f n) = some ((), enc (eup A 0 7 x) B f n) := by cases n with | zero => rfl | succ n => cases n <;> rfl
theorem e_g_0_8 : gI 11 0 8 (enc A B f n) = some (A 0 8, enc A B f n) := rfl
theorem e_p_0_8 (x : Int32) : pV 11 0 8 (.int x) (enc A B f n) = some ((), enc (eup A 0 8 x) B f n) := by cases n with | zero => rfl | succ n => cases n <;> rfl
theorem e_g_0_9 : gI 11 0 9 (enc A B f n) = some (A 0 9, enc A B f n) := rfl
theorem e_p_0_9 (x : Int32) : pV 11 0 9 (.int x) (enc A B f n) = some ((), enc (eup A 0 9 x) B f n) := by cases n with | zero => rfl | succ n => cases n <;> rfl
theorem e_cl_1 : qcl 2 1 (enc A B f n) = some ((), enc A B f n) := rfl
theorem e_g_1_0 : gR 2 1 0 (enc A B f n) = some (2, enc A B f n) := rfl
theorem e_g_1_1 : gR 2 1 1 (enc A B f n) = some (9, enc A B f n) := rfl
theorem e_g_1_2 : gR 2 1 2 (enc A B f n) = some (10, enc A B f n) := rfl
theorem e_g_1_3 : gR 2 1 3 (enc A B f n) = some (11, enc A B f n) := rfl
theorem e_g_1_4 : gI 2 1 4 (enc A B f n) = some (A 1 4, enc A B f n) := rfl
theorem e_p_1_4 (x : Int32) : pV 2 1 4 (.int x) (enc A B f n) = some ((), enc (eup A 1 4 x) B f n) := by cases n with | zero => rfl | succ n => cases n <;> rfl
theorem e_g_1_5 : gI 2 1 5 (enc A B f n) = some (A 1 5, enc A B f n) := rfl
theorem e_p_1_5 (x : Int32) : pV 2 1 5 (.int x) (enc A B f n) = some ((), enc (eup A 1 5 x) B f n) := by cases n with | zero => rfl | succ n => cases n <;> rfl
theorem e_g_1_6 : gR 2 1 6 (enc A B f n) = some (12, enc A B f n) := rfl
theorem e_g_1_7 : gR 2 1 7 (enc A B f n) = some (13, enc A B f n) := rfl
theorem e_g_1_8 : gI 2 1 8 (enc A B f n) = some (A 1 8, enc A B f n) := rfl
theorem e_p_1_8 (x : Int32) : pV 2 1 8 (.int x) (enc A B f n) = some ((), enc (eup A 1 8 x) B f n) := by cases n with | zero => rfl | succ n => cases n <;> rfl
theorem e_g_1_9 : gR 2 1 9 (enc A B f n) = some (14, enc A B f n) := rfl
theorem e_g_1_10 : gR 2 1 10 (enc A B f n) = some (20, enc A B f n) := rfl
theorem e_q_2 (i : Int32) : aQ 0 2 i (enc A B f n) = if i < 0 ∨ 6 ≤ i.toNatClampNeg then none else some ((ekf 2) i.toNatClampNeg, enc A B f n) := rfl
theorem e_l_2 : aL 2 (enc A B f n) = some (6, enc A B f n) := rfl
theorem e_cl_3 : qcl 5 3 (enc A B f n) = some ((), enc A B f n) := rfl
theorem e_cl_4 : qcl 7 4 (enc A B f n) = some ((), enc A B f n) := rfl
theorem e_cl_5 : qcl 6 5 (enc A B f n) = some ((), enc A B f n) := rfl
theorem e_cl_6 : qcl 1 6 (enc A B f n) = some ((), enc A B f n) := rfl
theorem e_cl_7 : qcl 9 7 (enc A B f n) = some ((), enc A B f n) := rfl
theorem e_cl_8 : qcl 10 8 (enc A B f n) = some ((), enc A B f n) := rfl
theorem e_a_9 (i : Int32) : aI 9 i (enc A B f n) = if i < 0 ∨ 3 ≤ i.toNatClampNeg then none else some (A 9 i.toNatClampNeg, enc A B f n) := rfl
theorem e_s_9 (i x : Int32) : sI 9 i x (enc A B f n) = if i < 0 ∨ 3 ≤ i.toNatClampNeg then none else some ((), enc (eup A 9 i.toNatClampNeg x) B f n) := by cases n with | zero => rfl | succ n => cases n <;> rfl
theorem e_l_9 : aL 9 (enc A B f n) = some (3, enc A B f n) := rfl
theorem e_a_10 (i : Int32) : aI 10 i (enc A B f n) = if i < 0 ∨ 3 ≤ i.toNatClampNeg then none else some (A 10 i.toNatClampNeg, enc A B f n) := rfl
theorem e_s_10 (i x : Int32) : sI 10 i x (enc A B f n) = if i < 0 ∨ 3 ≤ i.toNatClampNeg then none else some ((), enc (eup A 10 i.toNatClampNeg x) B f n) := by cases n with | zero => rfl | succ n => cases n <;> rfl
theorem e_l_10 : aL 10 (enc A B f n) = some (3, enc A B f n) := rfl
theorem e_a_11 (i : Int32) : aI 11 i (enc A B f n) = if i < 0 ∨ 7 ≤ i.toNatClampNeg then none else some (A 11 i.toNatClampNeg, enc A B f n) := rfl
theorem e_s_11 (i x : Int32) : sI 11 i x (enc A B f n) = if i < 0 ∨ 7 ≤ i.toNatClampNeg then none else some ((), enc (eup A 11 i.toNatClampNeg x) B f n) := by cases n with | zero => rfl | succ n => cases n <;> rfl
theorem e_l_11 : aL 11 (enc A B f n) = some (7, enc A B f n) := rfl
theorem e_a_12 (i : Int32) : aI 12 i (enc A B f n) = if i < 0 ∨ 10 ≤ i.toNatClampNeg then none else some (A 12 i.toNatClampNeg, enc A B f n) := rfl
theorem e_s_12 (i x : Int32) : sI 12 i x (enc A B f n) = if i < 0 ∨ 10 ≤ i.toNatClampNeg then none else some ((), enc (eup A 12 i.toNatClampNeg x) B f n) := by cases n with | zero => rfl | succ n => cases n <;> rfl
theorem e_l_12 : aL 12 (enc A B f n) = some (10, enc A B f n) := rfl
theorem e_a_13 (i : Int32) : aI 13 i (enc A B f n) = if i < 0 ∨ 120 ≤ i.toNatClampNeg then none else some (A 13 i.toNatClampNeg, enc A B f n) := rfl
theorem e_s_13 (i x : Int32) : sI 13 i x (enc A B f n) = if i < 0 ∨ 120 ≤ i.toNatClampNeg then none else some ((), enc (eup A 13 i.toNatClampNeg x) B f n) := by cases n with | zero => rfl | succ n => cases n <;> rfl
theorem e_l_13 : aL 13 (enc A B f n) = some (120, enc A B f n) := rfl
theorem e_cl_14 : qcl 0 14 (enc A B f n) = some ((), enc A B f n) := rfl
theorem e_g_14_0 : gR 0 14 0 (enc A B f n) = some (15, enc A B f n) := rfl
theorem e_g_14_1 : gI 0 14 1 (enc A B f n) = some (A 14 1, enc A B f n) := rfl
theorem e_p_14_1 (x : Int32) : pV 0 14 1 (.int x) (enc A B f n) = some ((), enc (eup A 14 1 x) B f n) := by cases n with | zero => rfl | succ n => cases n <;> rfl
theorem e_g_14_2 : gR 0 14 2 (enc A B f n) = some (16, enc A B f n) := rfl
theorem e_g_14_3 : gR 0 14 3 (enc A B f n) = some (17, enc A B f n) := rfl
theorem e_g_14_4 : gR 0 14 4 (enc A B f n) = some (18, enc A B f n) := rfl
theorem e_g_14_5 : gR 0 14 5 (enc A B f n) = some (19, enc A B f n) := rfl
theorem e_a_15 (i : Int32) : aI 15 i (enc A B f n) = if i < 0 ∨ 60 ≤ i.toNatClampNeg then none else some (A 15 i.toNatClampNeg, enc A B f n) := rfl
theorem e_s_15 (i x : Int32) : sI 15 i x (enc A B f n) = if i < 0 ∨ 60 ≤ i.toNatClampNeg then none else some ((), enc (eup A 15 i.toNatClampNeg x) B f n) := by cases n with | zero => rfl | succ n => cases n <;> rfl
theorem e_l_15 : aL 15 (enc A B f n) = some (60, enc A B f n) := rfl
theorem e_a_16 (i : Int32) : aI 16 i (enc A B f n) = if i < 0 ∨ 32 ≤ i.toNatClampNeg then none else some (A 16 i.toNatClampNeg, enc A B f n) := rfl
theorem e_s_16 (i x : Int32) : sI 16 i x (enc A B f n) = if i < 0 ∨ 32 ≤ i.toNatClampNeg then none else some ((), enc (eup A 16 i.toNatClampNeg x) B f n) := by cases n with | zero => rfl | succ n => cases n <;> rfl
theorem e_l_16 : aL 16 (enc A B f n) = some (32, enc A B f n) := rfl
theorem e_a_17 (i : Int32) : aI 17 i (enc A B f n) = if i < 0 ∨ 4 ≤ i.toNatClampNeg then none else some (A 17 i.toNatClampNeg, enc A B f n) := rfl
theorem e_s_17 (i x : Int32) : sI 17 i x (enc A B f n) = if i < 0 ∨ 4 ≤ i.toNatClampNeg then none else some ((), enc (eup A 17 i.toNatClampNeg x) B f n) := by cases n with | zero => rfl | succ n => cases n <;> rfl
theorem e_l_17 : aL 17 (enc A B f n) = some (4, enc A B f n) := rfl
theorem e_a_18 (i : Int32) : aI 18 i (enc A B f n) = if i < 0 ∨ 4 ≤ i.toNatClampNeg then none else some (A 18 i.toNatClampNeg, enc A B f n) := rfl
theorem e_s_18 (i x : Int32) : sI 18 i x (enc A B f n) = if i < 0 ∨ 4 ≤ i.toNatClampNeg then none else some ((), enc (eup A 18 i.toNatClampNeg x) B f n) := by cases n with | zero => rfl | succ n => cases n <;> rfl
theorem e_l_18 : aL 18 (enc A B f n) = some (4, enc A B f n) := rfl
theorem e_a_19 (i : Int32) : aI 19 i (enc A B f n) = if i < 0 ∨ 3 ≤ i.toNatClampNeg then none else some (A 19 i.toNatClampNeg, enc A B f n) := rfl
theorem e_s_19 (i x : Int32) : sI 19 i x (enc A B f n) = if i < 0 ∨ 3 ≤ i.toNatClampNeg then none else some ((), enc (eup A 19 i.toNatClampNeg x) B f n) := by cases n with | zero => rfl | succ n => cases n <;> rfl
theorem e_l_19 : aL 19 (enc A B f n) = some (3, enc A B f n) := rfl
theorem e_cl_20 : qcl 8 20 (enc A B f n) = some ((), enc A B f n) := rfl
theorem e_g_20_0 : gR 8 20 0 (enc A B f n) = some (21, enc A B f n) := rfl
theorem e_g_20_1 : gR 8 20 1 (enc A B f n) = some (22, enc A B f n) := rfl
theorem e_g_20_2 : gR 8 20 2 (enc A B f n) = some (23, enc A B f n) := rfl
theorem e_a_21 (i : Int32) : aI 21 i (enc A B f n) = if i < 0 ∨ 8 ≤ i.toNatClampNeg then none else some (A 21 i.toNatClampNeg, enc A B f n) := rfl
theorem e_s_21 (i x : Int32) : sI 21 i x (enc A B f n) = if i < 0 ∨ 8 ≤ i.toNatClampNeg then none else some ((), enc (eup A 21 i.toNatClampNeg x) B f n) := by cases n with | zero => rfl | succ n => cases n <;> rfl
theorem e_l_21 : aL 21 (enc A B f n) = some (8, enc A B f n) := rfl
theorem e_a_22 (i : Int32) : aI 22 i (enc A B f n) = if i < 0 ∨ 2 ≤ i.toNatClampNeg then none else some (A 22 i.toNatClampNeg, enc A B f n) := rfl
theorem e_s_22 (i x : Int32) : sI 22 i x (enc A B f n) = if i < 0 ∨ 2 ≤ i.toNatClampNeg then none else some ((), enc (eup A 22 i.toNatClampNeg x) B f n) := by cases n with | zero => rfl | succ n => cases n <;> rfl
theorem e_l_22 : aL 22 (enc A B f n) = some (2, enc A B f n) := rfl
theorem e_a_23 (i : Int32) : aI 23 i (enc A B f n) = if i < 0 ∨ 256 ≤ i.toNatClampNeg then none else some (A 23 i.toNatClampNeg, enc A B f n) := rfl
theorem e_s_23 (i x : Int32) : sI 23 i x (enc A B f n) = if i < 0 ∨ 256 ≤ i.toNatClampNeg then none else some ((), enc (eup A 23 i.toNatClampNeg x) B f n) := by cases n with | zero => rfl | succ n => cases n <;> rfl
theorem e_l_23 : aL 23 (enc A B f n) = some (256, enc A B f n) := rfl
theorem e_cl_24 : qcl 2 24 (enc A B f n) = some ((), enc A B f n) := rfl
theorem e_g_24_0 : gR 2 24 0 (enc A B f n) = some (25, enc A B f n) := rfl
theorem e_g_24_1 : gR 2 24 1 (enc A B f n) = some (32, enc A B f n) := rfl
theorem e_g_24_2 : gR 2 24 2 (enc A B f n) = some (33, enc A B f n) := rfl
theorem e_g_24_3 : gR 2 24 3 (enc A B f n) = some (34, enc A B f n) := rfl
theorem e_g_24_4 : gI 2 24 4 (enc A B f n) = some (A 24 4, enc A B f n) := rfl
theorem e_p_24_4 (x : Int32) : pV 2 24 4 (.int x) (enc A B f n) = some ((), enc (eup A 24 4 x) B f n) := by cases n with | zero => rfl | succ n => cases n <;> rfl
theorem e_g_24_5 : gI 2 24 5 (enc A B f n) = some (A 24 5, enc A B f n) := rfl
theorem e_p_24_5 (x : Int32) : pV 2 24 5 (.int x) (enc A B f n) = some ((), enc (eup A 24 5 x) B f n) := by cases n with | zero => rfl | succ n => cases n <;> rfl
theorem e_g_24_6 : gR 2 24 6 (enc A B f n) = some (35, enc A B f n) := rfl
theorem e_g_24_7 : gR 2 24 7 (enc A B f n) = some (36, enc A B f n) := rfl
theorem e_g_24_8 : gI 2 24 8 (enc A B f n) = some (A 24 8, enc A B f n) := rfl
theorem e_p_24_8 (x : Int32) : pV 2 24 8 (.int x) (enc A B f n) = some ((), enc (eup A 24 8 x) B f n) := by cases n with | zero => rfl | succ n => cases n <;> rfl
theorem e_g_24_9 : gR 2 24 9 (enc A B f n) = some (37, enc A B f n) := rfl
theorem e_g_24_10 : gR 2 24 10 (enc A B f n) = some (43, enc A B f n) := rfl
theorem e_q_25 (i : Int32) : aQ 0 25 i (enc A B f n) = if i < 0 ∨ 6 ≤ i.toNatClampNeg then none else some ((ekf 25) i.toNatClampNeg, enc A B f n) := rfl
theorem e_l_25 : aL 25 (enc A B f n) = some (6, enc A B f n) := rfl
theorem e_cl_26 : qcl 5 26 (enc A B f n) = some ((), enc A B f n) := rfl
theorem e_cl_27 : qcl 7 27 (enc A B f n) = some ((), enc A B f n) := rfl
theorem e_cl_28 : qcl 6 28 (enc A B f n) = some ((), enc A B f n) := rfl
theorem e_cl_29 : qcl 1 29 (enc A B f n) = some ((), enc A B f n) := rfl
theorem e_cl_30 : qcl 9 30 (enc A B f n) = some ((), enc A B f n) := rfl
theorem e_cl_31 : qcl 10 31 (enc A B f n) = some ((), enc A B f n) := rfl
theorem e_a_32 (i : Int32) : aI 32 i (enc A B f n) = if i < 0 ∨ 3 ≤ i.toNatClampNeg then none else some (A 32 i.toNatClampNeg, enc A B f n) := rfl
theorem e_s_32 (i x : Int32) : sI 32 i x (enc A B f n) = if i < 0 ∨ 3 ≤ i.toNatClampNeg then none else some ((), enc (eup A 32 i.toNatClampNeg x) B f n) := by cases n with | zero => rfl | succ n => cases n <;> rfl
theorem e_l_32 : aL 32 (enc A B f n) = some (3, enc A B f n) := rfl
theorem e_a_33 (i : Int32) : aI 33 i (enc A B f n) = if i < 0 ∨ 3 ≤ i.toNatClampNeg then none else some (A 33 i.toNatClampNeg, enc A B f n) := rfl
theorem e_s_33 (i x : Int32) : sI 33 i x (enc A B f n) = if i < 0 ∨ 3 ≤ i.toNatClampNeg then none else some ((), enc (eup A 33 i.toNatClampNeg x) B f n) := by cases n with | zero => rfl | succ n => cases n <;> rfl
theorem e_l_33 : aL 33 (enc A B f n) = some (3, enc A B f n) := rfl
theorem e_a_34 (i : Int32) : aI 34 i (enc A B f n) = if i < 0 ∨ 7 ≤ i.toNatClampNeg then none else some (A 34 i.toNatClampNeg, enc A B f n) := rfl
theorem e_s_34 (i x : Int32) : sI 34 i x (enc A B f n) = if i < 0 ∨ 7 ≤ i.toNatClampNeg then none else some ((), enc (eup A 34 i.toNatClampNeg x) B f n) := by cases n with | zero => rfl | succ n => cases n <;> rfl
theorem e_l_34 : aL 34 (enc A B f n) = some (7, enc A B f n) := rfl
theorem e_a_35 (i : Int32) : aI 35 i (enc A B f n) = if i < 0 ∨ 10 ≤ i.toNatClampNeg then none else some (A 35 i.toNatClampNeg, enc A B f n) := rfl
theorem e_s_35 (i x : Int32) : sI 35 i x (enc A B f n) = if i < 0 ∨ 10 ≤ i.toNatClampNeg then none else some ((), enc (eup A 35 i.toNatClampNeg x) B f n) := by cases n with | zero => rfl | succ n => cases n <;> rfl
theorem e_l_35 : aL 35 (enc A B f n) = some (10, enc A B f n) := rfl
theorem e_a_36 (i : Int32) : aI 36 i (enc A B f n) = if i < 0 ∨ 120 ≤ i.toNatClampNeg then none else some (A 36 i.toNatClampNeg, enc A B f n) := rfl
theorem e_s_36 (i x : Int32) : sI 36 i x (enc A B f n) = if i < 0 ∨ 120 ≤ i.toNatClampNeg then none else some ((), enc (eup A 36 i.toNatClampNeg x) B f n) := by cases n with | zero => rfl | succ n => cases n <;> rfl
theorem e_l_36 : aL 36 (enc A B f n) = some (120, enc A B f n) := rfl
theorem e_cl_37 : qcl 0 37 (enc A B f n) = some ((), enc A B f n) := rfl
theorem e_g_37_0 : gR 0 37 0 (enc A B f n) = some (38, enc A B f n) := rfl
theorem e_g_37_1 : gI 0 37 1 (enc A B f n) = some (A 37 1, enc A B f n) := rfl
theorem e_p_37_1 (x : Int32) : pV 0 37 1 (.int x) (enc A B f n) = some ((), enc (eup A 37 1 x) B f n) := by cases n with | zero => rfl | succ n => cases n <;> rfl
theorem e_g_37_2 : gR 0 37 2 (enc A B f n) = some (39, enc A B f n) := rfl
theorem e_g_37_3 : gR 0 37 3 (enc A B f n) = some (40, enc A B f n) := rfl
theorem e_g_37_4 : gR 0 37 4 (enc A B f n) = some (41, enc A B f n) := rfl
theorem e_g_37_5 : gR 0 37 5 (enc A B f n) = some (42, enc A B f n) := rfl
theorem e_a_38 (i : Int32) : aI 38 i (enc A B f n) = if i < 0 ∨ 60 ≤ i.toNatClampNeg then none else some (A 38 i.toNatClampNeg, enc A B f n) := rfl
theorem e_s_38 (i x : Int32) : sI 38 i x (enc A B f n) = if i < 0 ∨ 60 ≤ i.toNatClampNeg then none else some ((), enc (eup A 38 i.toNatClampNeg x) B f n) := by cases n with | zero => rfl | succ n => cases n <;> rfl
theorem e_l_38 : aL 38 (enc A B f n) = some (60, enc A B f n) := rfl
theorem e_a_39 (i : Int32) : aI 39 i (enc A B f n) = if i < 0 ∨ 32 ≤ i.toNatClampNeg then none else some (A 39 i.toNatClampNeg, enc A B f n) := rfl
theorem e_s_39 (i x : Int32) : sI 39 i x (enc A B f n) = if i < 0 ∨ 32 ≤ i.toNatClampNeg then none else some ((), enc (eup A 39 i.toNatClampNeg x) B f n) := by cases n with | zero => rfl | succ n => cases n <;> rfl
theorem e_l_39 : aL 39 (enc A B f n) = some (32, enc A B f n) := rfl
theorem e_a_40 (i : Int32) : aI 40 i (enc A B f n) = if i < 0 ∨ 4 ≤ i.toNatClampNeg then none else some (A 40 i.toNatClampNeg, enc A B f n) := rfl
theorem e_s_40 (i x : Int32) : sI 40 i x (enc A B f n) = if i < 0 ∨ 4 ≤ i.toNatClampNeg then none else some ((), enc (eup A 40 i.toNatClampNeg x) B f n) := by cases n with | zero => rfl | succ n => cases n <;> rfl
theorem e_l_40 : aL 40 (enc A B f n) = some (4, enc A B f n) := rfl
theorem e_a_41 (i : Int32) : aI 41 i (enc A B f n) = if i < 0 ∨ 4 ≤ i.toNatClampNeg then none else some (A 41 i.toNatClampNeg, enc A B f n) := rfl
theorem e_s_41 (i x : Int32) : sI 41 i x (enc A B f n) = if i < 0 ∨ 4 ≤ i.toNatClampNeg then none else some ((), enc (eup A 41 i.toNatClampNeg x) B f n) := by cases n with | zero => rfl | succ n => cases n <;> rfl
theorem e_l_41 : aL 41 (enc A B f n) = some (4, enc A B f n) := rfl
theorem e_a_42 (i : Int32) : aI 42 i (enc A B f n) = if i < 0 ∨ 3 ≤ i.toNatClampNeg then none else some (A 42 i.toNatClampNeg, enc A B f n) := rfl
theorem e_s_42 (i x : Int32) : sI 42 i x (enc A B f n) = if i < 0 ∨ 3 ≤ i.toNatClampNeg then none else some ((), enc (eup A 42 i.toNatClampNeg x) B f n) := by cases n with | zero => rfl | succ n => cases n <;> rfl
theorem e_l_42 : aL 42 (enc A B f n) = some (3, enc A B f n) := rfl
theorem e_cl_43 : qcl 8 43 (enc A B f n) = some ((), enc A B f n) := rfl
theorem e_g_43_0 : gR 8 43 0 (enc A B f n) = some (44, enc A B f n) := rfl
theorem e_g_43_1 : gR 8 43 1 (enc A B f n) = some (45, enc A B f n) := rfl
theorem e_g_43_2 : gR 8 43 2 (enc A B f n) = some (46, enc A B f n) := rfl
theorem e_a_44 (i : Int32) : aI 44 i (enc A B f n) = if i < 0 ∨ 8 ≤ i.toNatClampNeg then none else some (A 44 i.toNatClampNeg, enc A B f n) := rfl
theorem e_s_44 (i x : Int32) : sI 44 i x (enc A B f n) = if i < 0 ∨ 8 ≤ i.toNatClampNeg then none else some ((), enc (eup A 44 i.toNatClampNeg x) B f n) := by cases n with | zero => rfl | succ n => cases n <;> rfl
theorem e_l_44 : aL 44 (enc A B f n) = some (8, enc A B f n) := rfl
theorem e_a_45 (i : Int32) : aI 45 i (enc A B f n) = if i < 0 ∨ 2 ≤ i.toNatClampNeg then none else some (A 45 i.toNatClampNeg, enc A B f n) := rfl
theorem e_s_45 (i x : Int32) : sI 45 i x (enc A B f n) = if i < 0 ∨ 2 ≤ i.toNatClampNeg then none else some ((), enc (eup A 45 i.toNatClampNeg x) B f n) := by cases n with | zero => rfl | succ n => cases n <;> rfl
theorem e_l_45 : aL 45 (enc A B f n) = some (2, enc A B f n) := rfl
theorem e_a_46 (i : Int32) : aI 46 i (enc A B f n) = if i < 0 ∨ 256 ≤ i.toNatClampNeg then none else some (A 46 i.toNatClampNeg, enc A B f n) := rfl
theorem e_s_46 (i x : Int32) : sI 46 i x (enc A B f n) = if i < 0 ∨ 256 ≤ i.toNatClampNeg then none else some ((), enc (eup A 46 i.toNatClampNeg x) B f n) := by cases n with | zero => rfl | succ n => cases n <;> rfl
theorem e_l_46 : aL 46 (enc A B f n) = some (256, enc A B f n) := rfl
theorem e_q_47 (i : Int32) : aQ 1 47 i (enc A B f n) = if i < 0 ∨ 2 ≤ i.toNatClampNeg then none else some ((f) i.toNatClampNeg, enc A B f n) := rfl
theorem e_l_47 : aL 47 (enc A B f n) = some (2, enc A B f n) := rfl
theorem e_cl_48 : qcl 4 48 (enc A B f n) = some ((), enc A B f n) := rfl
theorem e_g_48_0 : gR 4 48 0 (enc A B f n) = some (49, enc A B f n) := rfl
theorem e_g_48_1 : gR 4 48 1 (enc A B f n) = some (56, enc A B f n) := rfl
theorem e_g_48_2 : gR 4 48 2 (enc A B f n) = some (57, enc A B f n) := rfl
theorem e_g_48_3 : gR 4 48 3 (enc A B f n) = some (58, enc A B f n) := rfl
theorem e_g_48_4 : gI 4 48 4 (enc A B f n) = some (A 48 4, enc A B f n) := rfl
theorem e_p_48_4 (x : Int32) : pV 4 48 4 (.int x) (enc A B f n) = some ((), enc (eup A 48 4 x) B f n) := by cases n with | zero => rfl | succ n => cases n <;> rfl
theorem e_g_48_5 : gI 4 48 5 (enc A B f n) = some (A 48 5, enc A B f n) := rfl
theorem e_p_48_5 (x : Int32) : pV 4 48 5 (.int x) (enc A B f n) = some ((), enc (eup A 48 5 x) B f n) := by cases n with | zero => rfl | succ n => cases n <;> rfl
theorem e_g_48_6 : gI 4 48 6 (enc A B f n) = some (A 48 6, enc A B f n) := rfl
theorem e_p_48_6 (x : Int32) : pV 4 48 6 (.int x) (enc A B f n) = some ((), enc (eup A 48 6 x) B f n) := by cases n with | zero => rfl | succ n => cases n <;> rfl
theorem e_g_48_7 : gI 4 48 7 (enc A B f n) = some (A 48 7, enc A B f n) := rfl
theorem e_p_48_7 (x : Int32) : pV 4 48 7 (.int x) (enc A B f n) = some ((), enc (eup A 48 7 x) B f n) := by cases n with | zero => rfl | succ n => cases n <;> rfl
theorem e_g_48_8 : gI 4 48 8 (enc A B f n) = some (A 48 8, enc A B f n) := rfl
theorem e_p_48_8 (x : Int32) : pV 4 48 8 (.int x) (enc A B f n) = some ((), enc (eup A 48 8 x) B f n) := by cases n with | zero => rfl | succ n => cases n <;> rfl
theorem e_g_48_9 : gI 4 48 9 (enc A B f n) = some (A 48 9, enc A B f n) := rfl
theorem e_p_48_9 (x : Int32) : pV 4 48 9 (.int x) (enc A B f n) = some ((), enc (eup A 48 9 x) B f n) := by cases n with | zero => rfl | succ n => cases n <;> rfl
theorem e_g_48_10 : gI 4 48 10 (enc A B f n) = some (A 48 10, enc A B f n) := rfl
theorem e_p_48_10 (x : Int32) : pV 4 48 10 (.int x) (enc A B f n) = some ((), enc (eup A 48 10 x) B f n) := by cases n with | zero => rfl | succ n => cases n <;> rfl
theorem e_q_49 (i : Int32) : aQ 2 49 i (enc A B f n) = if i < 0 ∨ 6 ≤ i.toNatClampNeg then none else some ((erf) i.toNatClampNeg, enc A B f n) := rfl
theorem e_l_49 : aL 49 (enc A B f n) = some (6, enc A B f n) := rfl
theorem e_a_50 (i : Int32) : aI 50 i (enc A B f n) = if i < 0 ∨ 10 ≤ i.toNatClampNeg then none else some (A 50 i.toNatClampNeg, enc A B f n) := rfl
theorem e_s_50 (i x : Int32) : sI 50 i x (enc A B f n) = if i < 0 ∨ 10 ≤ i.toNatClampNeg then none else some ((), enc (eup A 50 i.toNatClampNeg x) B f n) := by cases n with | zero => rfl | succ n => cases n <;> rfl
theorem e_l_50 : aL 50 (enc A B f n) = some (10, enc A B f n) := rfl
theorem e_a_51 (i : Int32) : aI 51 i (enc A B f n) = if i < 0 ∨ 10 ≤ i.toNatClampNeg then none else some (A 51 i.toNatClampNeg, enc A B f n) := rfl
theorem e_s_51 (i x : Int32) : sI 51 i x (enc A B f n) = if i < 0 ∨ 10 ≤ i.toNatClampNeg then none else some ((), enc (eup A 51 i.toNatClampNeg x) B f n) := by cases n with | zero => rfl | succ n => cases n <;> rfl
theorem e_l_51 : aL 51 (enc A B f n) = some (10, enc A B f n) := rfl
theorem e_a_52 (i : Int32) : aI 52 i (enc A B f n) = if i < 0 ∨ 10 ≤ i.toNatClampNeg then none else some (A 52 i.toNatClampNeg, enc A B f n) := rfl
theorem e_s_52 (i x : Int32) : sI 52 i x (enc A B f n) = if i < 0 ∨ 10 ≤ i.toNatClampNeg then none else some ((), enc (eup A 52 i.toNatClampNeg x) B f n) := by cases n with | zero => rfl | succ n => cases n <;> rfl
theorem e_l_52 : aL 52 (enc A B f n) = some (10, enc A B f n) := rfl
theorem e_a_53 (i : Int32) : aI 53 i (enc A B f n) = if i < 0 ∨ 10 ≤ i.toNatClampNeg then none else some (A 53 i.toNatClampNeg, enc A B f n) := rfl
theorem e_s_53 (i x : Int32) : sI 53 i x (enc A B f n) = if i < 0 ∨ 10 ≤ i.toNatClampNeg then none else some ((), enc (eup A 53 i.toNatClampNeg x) B f n) := by cases n with | zero => rfl | succ n => cases n <;> rfl
theorem e_l_53 : aL 53 (enc A B f n) = some (10, enc A B f n) := rfl
theorem e_a_54 (i : Int32) : aI 54 i (enc A B f n) = if i < 0 ∨ 10 ≤ i.toNatClampNeg then none else some (A 54 i.toNatClampNeg, enc A B f n) := rfl
theorem e_s_54 (i x : Int32) : sI 54 i x (enc A B f n) = if i < 0 ∨ 10 ≤ i.toNatClampNeg then none else some ((), enc (eup A 54 i.toNatClampNeg x) B f n) := by cases n with | zero => rfl | succ n => cases n <;> rfl
theorem e_l_54 : aL 54 (enc A B f n) = some (10, enc A B f n) := rfl
theorem e_a_55 (i : Int32) : aI 55 i (enc A B f n) = if i < 0 ∨ 10 ≤ i.toNatClampNeg then none else some (A 55 i.toNatClampNeg, enc A B f n) := rfl
theorem e_s_55 (i x : Int32) : sI 55 i x (enc A B f n) = if i < 0 ∨ 10 ≤ i.toNatClampNeg then none else some ((), enc (eup A 55 i.toNatClampNeg x) B f n) := by cases n with | zero => rfl | succ n => cases n <;> rfl
theorem e_l_55 : aL 55 (enc A B f n) = some (10, enc A B f n) := rfl
theorem e_a_56 (i : Int32) : aI 56 i (enc A B f n) = if i < 0 ∨ 5 ≤ i.toNatClampNeg then none else some (A 56 i.toNatClampNeg, enc A B f n) := rfl
theorem e_s_56 (i x : Int32) : sI 56 i x (enc A B f n) = if i < 0 ∨ 5 ≤ i.toNatClampNeg then none else some ((), enc (eup A 56 i.toNatClampNeg x) B f n) := by cases n with | zero => rfl | succ n => cases n <;> rfl
theorem e_l_56 : aL 56 (enc A B f n) = some (5, enc A B f n) := rfl
theorem e_a_57 (i : Int32) : aI 57 i (enc A B f n) = if i < 0 ∨ 5 ≤ i.toNatClampNeg then none else some (A 57 i.toNatClampNeg, enc A B f n) := rfl
theorem e_s_57 (i x : Int32) : sI 57 i x (enc A B f n) = if i < 0 ∨ 5 ≤ i.toNatClampNeg then none else some ((), enc (eup A 57 i.toNatClampNeg x) B f n) := by cases n with | zero => rfl | succ n => cases n <;> rfl
theorem e_l_57 : aL 57 (enc A B f n) = some (5, enc A B f n) := rfl
theorem e_a_58 (i : Int32) : aI 58 i (enc A B f n) = if i < 0 ∨ 4 ≤ i.toNatClampNeg then none else some (A 58 i.toNatClampNeg, enc A B f n) := rfl
theorem e_s_58 (i x : Int32) : sI 58 i x (enc A B f n) = if i < 0 ∨ 4 ≤ i.toNatClampNeg then none else some ((), enc (eup A 58 i.toNatClampNeg x) B f n) := by cases n with | zero => rfl | succ n => cases n <;> rfl
theorem e_l_58 : aL 58 (enc A B f n) = some (4, enc A B f n) := rfl
theorem e_cl_59 : qcl 3 59 (enc A B f n) = some ((), enc A B f n) := rfl
theorem e_g_59_0 : gR 3 59 0 (enc A B f n) = some (60, enc A B f n) := rfl
theorem e_g_59_1 : gI 3 59 1 (enc A B f n) = some (A 59 1, enc A B f n) := rfl
theorem e_p_59_1 (x : Int32) : pV 3 59 1 (.int x) (enc A B f n) = some ((), enc (eup A 59 1 x) B f n) := by cases n with | zero => rfl | succ n => cases n <;> rfl
theorem e_g_59_2 : gI 3 59 2 (enc A B f n) = some (A 59 2, enc A B f n) := rfl
theorem e_p_59_2 (x : Int32) : pV 3 59 2 (.int x) (enc A B f n) = some ((), enc (eup A 59 2 x) B f n) := by cases n with | zero => rfl | succ n => cases n <;> rfl
theorem e_g_59_3 : gI 3 59 3 (enc A B f n) = some (A 59 3, enc A B f n) := rfl
theorem e_p_59_3 (x : Int32) : pV 3 59 3 (.int x) (enc A B f n) = some ((), enc (eup A 59 3 x) B f n) := by cases n with | zero => rfl | succ n => cases n <;> rfl
theorem e_g_59_4 : gI 3 59 4 (enc A B f n) = some (A 59 4, enc A B f n) := rfl
theorem e_p_59_4 (x : Int32) : pV 3 59 4 (.int x) (enc A B f n) = some ((), enc (eup A 59 4 x) B f n) := by cases n with | zero => rfl | succ n => cases n <;> rfl
theorem e_g_59_5 : gI 3 59 5 (enc A B f n) = some (A 59 5, enc A B f n) := rfl
theorem e_p_59_5 (x : Int32) : pV 3 59 5 (.int x) (enc A B f n) = some ((), enc (eup A 59 5 x) B f n) := by cases n with | zero => rfl | succ n => cases n <;> rfl
theorem e_g_59_6 : gI 3 59 6 (enc A B f n) = some (A 59 6, enc A B f n) := rfl
theorem e_p_59_6 (x : Int32) : pV 3 59 6 (.int x) (enc A B f n) = some ((), enc (eup A 59 6 x) B f n) := by cases n with | zero => rfl | succ n => cases n <;> rfl
theorem e_g_59_7 : gI 3 59 7 (enc A B f n) = some (A 59 7, enc A B f n) := rfl
theorem e_p_59_7 (x : Int32) : pV 3 59 7 (.int x) (enc A B f n) = some ((), enc (eup A 59 7 x) B f n) := by cases n with | zero => rfl | succ n => cases n <;> rfl
theorem e_g_59_8 : gI 3 59 8 (enc A B f n) = some (A 59 8, enc A B f n) := rfl
theorem e_p_59_8 (x : Int32) : pV 3 59 8 (.int x) (enc A B f n) = some ((), enc (eup A 59 8 x) B f n) := by cases n with | zero => rfl | succ n => cases n <;> rfl
theorem e_g_59_9 : gI 3 59 9 (enc A B f n) = some (A 59 9, enc A B f n) := rfl
theorem e_p_59_9 (x : Int32) : pV 3 59 9 (.int x) (enc A B f n) = some ((), enc (eup A 59 9 x) B f n) := by cases n with | zero => rfl | succ n => cases n <;> rfl
theorem e_g_59_10 : gI 3 59 10 (enc A B f n) = some (A 59 10, enc A B f n) := rfl
theorem e_p_59_10 (x : Int32) : pV 3 59 10 (.int x) (enc A B f n) = some ((), enc (eup A 59 10 x) B f n) := by cases n with | zero => rfl | succ n => cases n <;> rfl
theorem e_g_59_11 : gI 3 59 11 (enc A B f n) = some (A 59 11, enc A B f n) := rfl
theorem e_p_59_11 (x : Int32) : pV 3 59 11 (.int x) (enc A B f n) = some ((), enc (eup A 59 11 x) B f n) := by cases n with | zero => rfl | succ n => cases n <;> rfl
theorem e_a_60 (i : Int32) : aI 60 i (enc A B f n) = if i < 0 ∨ 200 ≤ i.toNatClampNeg then none else some (A 60 i.toNatClampNeg, enc A B f n) := rfl
theorem e_s_60 (i x : Int32) : sI 60 i x (enc A B f n) = if i < 0 ∨ 200 ≤ i.toNatClampNeg then none else some ((), enc (eup A 60 i.toNatClampNeg x) B f n) := by cases n with | zero => rfl | succ n => cases n <;> rfl
theorem e_l_60 : aL 60 (enc A B f n) = some (200, enc A B f n) := rfl
theorem e_cl_61 : qcl 12 61 (enc A B f n) = some ((), enc A B f n) := rfl
theorem e_g_61_0 : gR 12 61 0 (enc A B f n) = some (62, enc A B f n) := rfl
theorem e_g_61_1 : gR 12 61 1 (enc A B f n) = some (63, enc A B f n) := rfl
theorem e_g_61_2 : gR 12 61 2 (enc A B f n) = some (64, enc A B f n) := rfl
theorem e_g_61_3 : gR 12 61 3 (enc A B f n) = some (65, enc A B f n) := rfl
theorem e_g_61_4 : gR 12 61 4 (enc A B f n) = some (66, enc A B f n) := rfl
theorem e_g_61_5 : gI 12 61 5 (enc A B f n) = some (A 61 5, enc A B f n) := rfl
theorem e_p_61_5 (x : Int32) : pV 12 61 5 (.int x) (enc A B f n) = some ((), enc (eup A 61 5 x) B f n) := by cases n with | zero => rfl | succ n => cases n <;> rfl
theorem e_g_61_6 : gL 12 61 6 (enc A B f n) = some (B 61 6, enc A B f n) := rfl
theorem e_p_61_6 (x : Int64) : pV 12 61 6 (.long x) (enc A B f n) = some ((), enc A (eupB B 61 6 x) f n) := by cases n with | zero => rfl | succ n => cases n <;> rfl
theorem e_g_61_7 : gL 12 61 7 (enc A B f n) = some (B 61 7, enc A B f n) := rfl
theorem e_p_61_7 (x : Int64) : pV 12 61 7 (.long x) (enc A B f n) = some ((), enc A (eupB B 61 7 x) f n) := by cases n with | zero => rfl | succ n => cases n <;> rfl
theorem e_g_61_8 : gR 12 61 8 (enc A B f n) = some (67, enc A B f n) := rfl
theorem e_g_61_9 : gR 12 61 9 (enc A B f n) = some (68, enc A B f n) := rfl
theorem e_g_61_10 : gR 12 61 10 (enc A B f n) = some (69, enc A B f n) := rfl
theorem e_g_61_11 : gR 12 61 11 (enc A B f n) = some (70, enc A B f n) := rfl
theorem e_g_61_12 : gR 12 61 12 (enc A B f n) = some (71, enc A B f n) := rfl
theorem e_g_61_13 : gR 12 61 13 (enc A B f n) = some (72, enc A B f n) := rfl
theorem e_g_61_14 : gI 12 61 14 (enc A B f n) = some (A 61 14, enc A B f n) := rfl
theorem e_p_61_14 (x : Int32) : pV 12 61 14 (.int x) (enc A B f n) = some ((), enc (eup A 61 14 x) B f n) := by cases n with | zero => rfl | succ n => cases n <;> rfl
theorem e_g_61_15 : gI 12 61 15 (enc A B f n) = some (A 61 15, enc A B f n) := rfl
theorem e_p_61_15 (x : Int32) : pV 12 61 15 (.int x) (enc A B f n) = some ((), enc (eup A 61 15 x) B f n) := by cases n with | zero => rfl | succ n => cases n <;> rfl
theorem e_g_61_16 : gI 12 61 16 (enc A B f n) = some (A 61 16, enc A B f n) := rfl
theorem e_p_61_16 (x : Int32) : pV 12 61 16 (.int x) (enc A B f n) = some ((), enc (eup A 61 16 x) B f n) := by cases n with | zero => rfl | succ n => cases n <;> rfl
theorem e_g_61_17 : gI 12 61 17 (enc A B f n) = some (A 61 17, enc A B f n) := rfl
theorem e_p_61_17 (x : Int32) : pV 12 61 17 (.int x) (enc A B f n) = some ((), enc (eup A 61 17 x) B f n) := by cases n with | zero => rfl | succ n => cases n <;> rfl
theorem e_g_61_18 : gI 12 61 18 (enc A B f n) = some (A 61 18, enc A B f n) := rfl
theorem e_p_61_18 (x : Int32) : pV 12 61 18 (.int x) (enc A B f n) = some ((), enc (eup A 61 18 x) B f n) := by cases n with | zero => rfl | succ n => cases n <;> rfl
theorem e_g_61_19 : gL 12 61 19 (enc A B f n) = some (B 61 19, enc A B f n) := rfl
theorem e_p_61_19 (x : Int64) : pV 12 61 19 (.long x) (enc A B f n) = some ((), enc A (eupB B 61 19 x) f n) := by cases n with | zero => rfl | succ n => cases n <;> rfl
theorem e_g_61_20 : gI 12 61 20 (enc A B f n) = some (A 61 20, enc A B f n) := rfl
theorem e_p_61_20 (x : Int32) : pV 12 61 20 (.int x) (enc A B f n) = some ((), enc (eup A 61 20 x) B f n) := by cases n with | zero => rfl | succ n => cases n <;> rfl
theorem e_g_61_21 : gR 12 61 21 (enc A B f n) = some (73, enc A B f n) := rfl
theorem e_g_61_22 : gI 12 61 22 (enc A B f n) = some (A 61 22, enc A B f n) := rfl
theorem e_p_61_22 (x : Int32) : pV 12 61 22 (.int x) (enc A B f n) = some ((), enc (eup A 61 22 x) B f n) := by cases n with | zero => rfl | succ n => cases n <;> rfl
theorem e_a_62 (i : Int32) : aI 62 i (enc A B f n) = if i < 0 ∨ 253 ≤ i.toNatClampNeg then none else some (A 62 i.toNatClampNeg, enc A B f n) := rfl
theorem e_s_62 (i x : Int32) : sI 62 i x (enc A B f n) = if i < 0 ∨ 253 ≤ i.toNatClampNeg then none else some ((), enc (eup A 62 i.toNatClampNeg x) B f n) := by cases n with | zero => rfl | succ n => cases n <;> rfl
theorem e_l_62 : aL 62 (enc A B f n) = some (253, enc A B f n) := rfl
theorem e_a_63 (i : Int32) : aI 63 i (enc A B f n) = if i < 0 ∨ 506 ≤ i.toNatClampNeg then none else some (A 63 i.toNatClampNeg, enc A B f n) := rfl
theorem e_s_63 (i x : Int32) : sI 63 i x (enc A B f n) = if i < 0 ∨ 506 ≤ i.toNatClampNeg then none else some ((), enc (eup A 63 i.toNatClampNeg x) B f n) := by cases n with | zero => rfl | succ n => cases n <;> rfl
theorem e_l_63 : aL 63 (enc A B f n) = some (506, enc A B f n) := rfl
theorem e_a_64 (i : Int32) : aZ 64 i (enc A B f n) = if i < 0 ∨ 2 ≤ i.toNatClampNeg then none else some (A 64 i.toNatClampNeg, enc A B f n) := rfl
theorem e_s_64 (i x : Int32) : sZ 64 i x (enc A B f n) = if i < 0 ∨ 2 ≤ i.toNatClampNeg then none else some ((), enc (eup A 64 i.toNatClampNeg (vp_nar .boolean x)) B f n) := by cases n with | zero => rfl | succ n => cases n <;> rfl
theorem e_a_65 (i : Int32) : aI 65 i (enc A B f n) = if i < 0 ∨ 253 ≤ i.toNatClampNeg then none else some (A 65 i.toNatClampNeg, enc A B f n) := rfl
theorem e_s_65 (i x : Int32) : sI 65 i x (enc A B f n) = if i < 0 ∨ 253 ≤ i.toNatClampNeg then none else some ((), enc (eup A 65 i.toNatClampNeg x) B f n) := by cases n with | zero => rfl | succ n => cases n <;> rfl
theorem e_l_65 : aL 65 (enc A B f n) = some (253, enc A B f n) := rfl
theorem e_a_66 (i : Int32) : aI 66 i (enc A B f n) = if i < 0 ∨ 3 ≤ i.toNatClampNeg then none else some (A 66 i.toNatClampNeg, enc A B f n) := rfl
theorem e_s_66 (i x : Int32) : sI 66 i x (enc A B f n) = if i < 0 ∨ 3 ≤ i.toNatClampNeg then none else some ((), enc (eup A 66 i.toNatClampNeg x) B f n) := by cases n with | zero => rfl | succ n => cases n <;> rfl
theorem e_l_66 : aL 66 (enc A B f n) = some (3, enc A B f n) := rfl
theorem e_a_67 (i : Int32) : aI 67 i (enc A B f n) = if i < 0 ∨ 10 ≤ i.toNatClampNeg then none else some (A 67 i.toNatClampNeg, enc A B f n) := rfl
theorem e_s_67 (i x : Int32) : sI 67 i x (enc A B f n) = if i < 0 ∨ 10 ≤ i.toNatClampNeg then none else some ((), enc (eup A 67 i.toNatClampNeg x) B f n) := by cases n with | zero => rfl | succ n => cases n <;> rfl
theorem e_l_67 : aL 67 (enc A B f n) = some (10, enc A B f n) := rfl
theorem e_a_68 (i : Int32) : aI 68 i (enc A B f n) = if i < 0 ∨ 5 ≤ i.toNatClampNeg then none else some (A 68 i.toNatClampNeg, enc A B f n) := rfl
theorem e_s_68 (i x : Int32) : sI 68 i x (enc A B f n) = if i < 0 ∨ 5 ≤ i.toNatClampNeg then none else some ((), enc (eup A 68 i.toNatClampNeg x) B f n) := by cases n with | zero => rfl | succ n => cases n <;> rfl
theorem e_l_68 : aL 68 (enc A B f n) = some (5, enc A B f n) := rfl
theorem e_a_69 (i : Int32) : aI 69 i (enc A B f n) = if i < 0 ∨ 5 ≤ i.toNatClampNeg then none else some (A 69 i.toNatClampNeg, enc A B f n) := rfl
theorem e_s_69 (i x : Int32) : sI 69 i x (enc A B f n) = if i < 0 ∨ 5 ≤ i.toNatClampNeg then none else some ((), enc (eup A 69 i.toNatClampNeg x) B f n) := by cases n with | zero => rfl | succ n => cases n <;> rfl
theorem e_l_69 : aL 69 (enc A B f n) = some (5, enc A B f n) := rfl
theorem e_a_70 (i : Int32) : aI 70 i (enc A B f n) = if i < 0 ∨ 3 ≤ i.toNatClampNeg then none else some (A 70 i.toNatClampNeg, enc A B f n) := rfl
theorem e_s_70 (i x : Int32) : sI 70 i x (enc A B f n) = if i < 0 ∨ 3 ≤ i.toNatClampNeg then none else some ((), enc (eup A 70 i.toNatClampNeg x) B f n) := by cases n with | zero => rfl | succ n => cases n <;> rfl
theorem e_l_70 : aL 70 (enc A B f n) = some (3, enc A B f n) := rfl
theorem e_a_71 (i : Int32) : aI 71 i (enc A B f n) = if i < 0 ∨ 512 ≤ i.toNatClampNeg then none else some (A 71 i.toNatClampNeg, enc A B f n) := rfl
theorem e_s_71 (i x : Int32) : sI 71 i x (enc A B f n) = if i < 0 ∨ 512 ≤ i.toNatClampNeg then none else some ((), enc (eup A 71 i.toNatClampNeg x) B f n) := by cases n with | zero => rfl | succ n => cases n <;> rfl
theorem e_l_71 : aL 71 (enc A B f n) = some (512, enc A B f n) := rfl
theorem e_a_72 (i : Int32) : aI 72 i (enc A B f n) = if i < 0 ∨ 200 ≤ i.toNatClampNeg then none else some (A 72 i.toNatClampNeg, enc A B f n) := rfl
theorem e_s_72 (i x : Int32) : sI 72 i x (enc A B f n) = if i < 0 ∨ 200 ≤ i.toNatClampNeg then none else some ((), enc (eup A 72 i.toNatClampNeg x) B f n) := by cases n with | zero => rfl | succ n => cases n <;> rfl
theorem e_l_72 : aL 72 (enc A B f n) = some (200, enc A B f n) := rfl
theorem e_a_73 (i : Int32) : aI 73 i (enc A B f n) = if i < 0 ∨ 250 ≤ i.toNatClampNeg then none else some (A 73 i.toNatClampNeg, enc A B f n) := rfl
theorem e_s_73 (i x : Int32) : sI 73 i x (enc A B f n) = if i < 0 ∨ 250 ≤ i.toNatClampNeg then none else some ((), enc (eup A 73 i.toNatClampNeg x) B f n) := by cases n with | zero => rfl | succ n => cases n <;> rfl
theorem e_l_73 : aL 73 (enc A B f n) = some (250, enc A B f n) := rfl
end EN

def FX8_forget (x0 : Nat) : qP Int32 :=
qb (gR 8 x0 1) fun v1 =>
qb (aI v1 (0 : Int32)) fun v2 =>
qb (gR 8 x0 1) fun v3 =>
qb (aI v3 (1 : Int32)) fun v4 =>
qb (gR 8 x0 1) fun v5 =>
qb (sI v5 (0 : Int32) (0 : Int32)) fun _ =>
qb (gR 8 x0 1) fun v6 =>
qb (sI v6 (1 : Int32) (0 : Int32)) fun _ =>
qr (v2 + v4)
set_option maxRecDepth 100000 in
set_option maxHeartbeats 4000000 in
theorem FX8_forget_ok {l : Launch} {g : qG} {d n : Nat} (x0 : Nat) : qS l g mX8_forget d n 0 0 0 0 cvI 0 [(0, .ref x0)] [] (FX8_forget x0) := by
  unfold FX8_forget
  refine s_aload_n dX8_forget_0 rfl ?_
  refine s_gR dX8_forget_1 fX8_15 fun v1 => ?_
  refine s_iconst (v := 0) dX8_forget_4 (by decide) ?_
  refine s_aI dX8_forget_5 fun v2 => ?_
  refine s_aload_n dX8_forget_6 rfl ?_
  refine s_gR dX8_forget_7 fX8_15 fun v3 => ?_
  refine s_iconst (v := 1) dX8_forget_10 (by decide) ?_
  refine s_aI dX8_forget_11 fun v4 => ?_
  refine s_iadd dX8_forget_12 ?_
  refine s_istore_n (lv' := [(1, .int (v2 + v4)), (0, .ref x0)]) dX8_forget_13 (by decide) rfl ?_
  refine s_aload_n dX8_forget_14 rfl ?_
  refine s_gR dX8_forget_15 fX8_15 fun v5 => ?_
  refine s_iconst (v := 0) dX8_forget_18 (by decide) ?_
  refine s_iconst (v := 0) dX8_forget_19 (by decide) ?_
  refine s_sI dX8_forget_20 ?_
  refine s_aload_n dX8_forget_21 rfl ?_
  refine s_gR dX8_forget_22 fX8_15 fun v6 => ?_
  refine s_iconst (v := 1) dX8_forget_25 (by decide) ?_
  refine s_iconst (v := 0) dX8_forget_26 (by decide) ?_
  refine s_sI dX8_forget_27 ?_
  refine s_iload_n dX8_forget_28 rfl ?_
  exact s_ireturn dX8_forget_29 rfl rfl
theorem CX8_forget {l : Launch} {g : qG} {d : Nat} (x0 : Nat) : qCt l g mX8_forget d 0 0 cvI [.ref x0] (FX8_forget x0) := s_of pn_X8 (Nat.le_of_ble_eq_true rfl) fun n => FX8_forget_ok x0
def FX8_become (x0 : Nat) (x1 : Nat) : qP Unit :=
qb (gR 8 x1 0) fun v1 =>
qb (gR 8 x0 0) fun v2 =>
qb (cp v1 (0 : Int32) v2 (0 : Int32) (8 : Int32)) fun _ =>
qb (gR 8 x1 1) fun v3 =>
qb (gR 8 x0 1) fun v4 =>
qb (cp v3 (0 : Int32) v4 (0 : Int32) (2 : Int32)) fun _ =>
qr ()
set_option maxRecDepth 100000 in
set_option maxHeartbeats 4000000 in
theorem FX8_become_ok {l : Launch} {g : qG} {d n : Nat} (x0 : Nat) (x1 : Nat) : qS l g mX8_become (d + 1) n 0 0 0 0 cvV 0 [(0, .ref x0), (1, .ref x1)] [] (FX8_become x0 x1) := by
  unfold FX8_become
  refine s_aload_n dX8_become_0 rfl ?_
  refine s_gR dX8_become_1 fX8_11 fun v1 => ?_
  refine s_iconst (v := 0) dX8_become_4 (by decide) ?_
  refine s_aload_n dX8_become_5 rfl ?_
  refine s_gR dX8_become_6 fX8_11 fun v2 => ?_
  refine s_iconst (v := 0) dX8_become_9 (by decide) ?_
  refine s_bipush (v := 8) dX8_become_10 (by decide) ?_
  refine s_copy dX8_become_12 aX8_21 kw_an kw_as kw_ai (Nat.le_of_ble_eq_true rfl) ?_
  refine s_aload_n dX8_become_15 rfl ?_
  refine s_gR dX8_become_16 fX8_15 fun v3 => ?_
  refine s_iconst (v := 0) dX8_become_19 (by decide) ?_
  refine s_aload_n dX8_become_20 rfl ?_
  refine s_gR dX8_become_21 fX8_15 fun v4 => ?_
  refine s_iconst (v := 0) dX8_become_24 (by decide) ?_
  refine s_iconst (v := 2) dX8_become_25 (by decide) ?_
  refine s_copy dX8_become_26 aX8_21 kw_an kw_as kw_ai (Nat.le_of_ble_eq_true rfl) ?_
  exact s_return dX8_become_29 rfl
theorem CX8_become {l : Launch} {g : qG} {d : Nat} (x0 : Nat) (x1 : Nat) : qCt l g mX8_become (d + 1) 0 0 cvV [.ref x0, .ref x1] (FX8_become x0 x1) := s_of pn_X8 (Nat.le_of_ble_eq_true rfl) fun n => FX8_become_ok x0 x1
def UX8_mixed_14 (R : Nat → Int64 → Int32 → Int32 → qP Int64) (K52 : Nat → Int64 → Int32 → qP Int64) (x0 : Nat) (x3 : Int64) (x5 : Int32) (x6 : Int32) : qP Int64 :=
qb (gR 8 x0 1) fun v1 =>
qb (aI v1 x5) fun v2 =>
if v2 ≤ x6 then (
K52 x0 x3 x5) else (
qb (gR 8 x0 0) fun v3 =>
qb (aI v3 ((x5 * (4 : Int32)) + x6)) fun v4 =>
R x0 (((31 : Int64) * x3) + (v4).toInt64) x5 (x6 + 1))
set_option maxRecDepth 100000 in
set_option maxHeartbeats 4000000 in
theorem UX8_mixed_14_ok {l : Launch} {g : qG} {d n : Nat} {R : Nat → Int64 → Int32 → Int32 → qP Int64} (hR : ∀ (x0 : Nat) (x3 : Int64) (x5 : Int32) (x6 : Int32), qS l g mX8_mixed d n 0 0 0 0 cvL 14 [(0, .ref x0), (3, .long x3), (5, .int x5), (6, .int x6)] [] (R x0 x3 x5 x6)) {K52 : Nat → Int64 → Int32 → qP Int64} (hK52 : ∀ (x0 : Nat) (x3 : Int64) (x5 : Int32), qS l g mX8_mixed d n 0 0 0 0 cvL 52 [(0, .ref x0), (3, .long x3), (5, .int x5)] [] (K52 x0 x3 x5)) (x0 : Nat) (x3 : Int64) (x5 : Int32) (x6 : Int32) : qS l g mX8_mixed d n 0 0 0 0 cvL 14 [(0, .ref x0), (3, .long x3), (5, .int x5), (6, .int x6)] [] (UX8_mixed_14 R K52 x0 x3 x5 x6) := by
  unfold UX8_mixed_14
  refine s_iload dX8_mixed_14 rfl ?_
  refine s_aload_n dX8_mixed_16 rfl ?_
  refine s_gR dX8_mixed_17 fX8_15 fun v1 => ?_
  refine s_iload dX8_mixed_20 rfl ?_
  refine s_aI dX8_mixed_22 fun v2 => ?_
  refine s_icmp_ge (tgt := 52) dX8_mixed_23 (by decide) (fun c1 => ?_) (fun c1 => ?_)
  · refine s_locals [0, 1, 2] rfl ?_
    exact hK52 x0 x3 x5
  · refine s_ldc2 dX8_mixed_26 lX8_45 ?_
    refine s_lload_n dX8_mixed_29 rfl ?_
    refine s_lmul dX8_mixed_30 ?_
    refine s_aload_n dX8_mixed_31 rfl ?_
    refine s_gR dX8_mixed_32 fX8_11 fun v3 => ?_
    refine s_iload dX8_mixed_35 rfl ?_
    refine s_iconst (v := 4) dX8_mixed_37 (by decide) ?_
    refine s_imul dX8_mixed_38 ?_
    refine s_iload dX8_mixed_39 rfl ?_
    refine s_iadd dX8_mixed_41 ?_
    refine s_aI dX8_mixed_42 fun v4 => ?_
    refine s_i2l dX8_mixed_43 ?_
    refine s_ladd dX8_mixed_44 ?_
    refine s_lstore_n (lv' := [(3, .long (((31 : Int64) * x3) + (v4).toInt64)), (0, .ref x0), (5, .int x5), (6, .int x6)]) dX8_mixed_45 (by decide) rfl ?_
    refine s_iinc (lv' := [(6, .int (x6 + 1)), (3, .long (((31 : Int64) * x3) + (v4).toInt64)), (0, .ref x0), (5, .int x5)]) dX8_mixed_46 rfl (by decide) rfl ?_
    refine s_goto (tgt := 14) dX8_mixed_49 (by decide) ?_
    refine s_locals [2, 1, 3, 0] rfl ?_
    exact hR x0 (((31 : Int64) * x3) + (v4).toInt64) x5 (x6 + 1)
def WX8_mixed_14 (K52 : Nat → Int64 → Int32 → qP Int64) : Nat → Nat → Int64 → Int32 → Int32 → qP Int64
  | 0 => fun _ _ _ _ => qfail
  | N + 1 => fun x0 x3 x5 x6 => UX8_mixed_14 (WX8_mixed_14 K52 N) K52 x0 x3 x5 x6
theorem WX8_mixed_14_ok {l : Launch} {g : qG} {d n : Nat} {K52 : Nat → Int64 → Int32 → qP Int64} (hK52 : ∀ (x0 : Nat) (x3 : Int64) (x5 : Int32), qS l g mX8_mixed d n 0 0 0 0 cvL 52 [(0, .ref x0), (3, .long x3), (5, .int x5)] [] (K52 x0 x3 x5)) : ∀ (N : Nat) (x0 : Nat) (x3 : Int64) (x5 : Int32) (x6 : Int32), qS l g mX8_mixed d n 0 0 0 0 cvL 14 [(0, .ref x0), (3, .long x3), (5, .int x5), (6, .int x6)] [] (WX8_mixed_14 K52 N x0 x3 x5 x6) := by
  intro N
  induction N with
  | zero => intro x0 x3 x5 x6; exact s_fail
  | succ N ih => intro x0 x3 x5 x6; exact UX8_mixed_14_ok ih hK52 x0 x3 x5 x6
def UX8_mixed_52 (R : Nat → Int64 → Int32 → qP Int64) (x0 : Nat) (x3 : Int64) (x5 : Int32) : qP Int64 :=
R x0 x3 (x5 + 1)
set_option maxRecDepth 100000 in
set_option maxHeartbeats 4000000 in
theorem UX8_mixed_52_ok {l : Launch} {g : qG} {d n : Nat} {R : Nat → Int64 → Int32 → qP Int64} (hR : ∀ (x0 : Nat) (x3 : Int64) (x5 : Int32), qS l g mX8_mixed d n 0 0 0 0 cvL 5 [(0, .ref x0), (3, .long x3), (5, .int x5)] [] (R x0 x3 x5)) (x0 : Nat) (x3 : Int64) (x5 : Int32) : qS l g mX8_mixed d n 0 0 0 0 cvL 52 [(0, .ref x0), (3, .long x3), (5, .int x5)] [] (UX8_mixed_52 R x0 x3 x5) := by
  unfold UX8_mixed_52
  refine s_iinc (lv' := [(5, .int (x5 + 1)), (0, .ref x0), (3, .long x3)]) dX8_mixed_52 rfl (by decide) rfl ?_
  refine s_goto (tgt := 5) dX8_mixed_55 (by decide) ?_
  refine s_locals [1, 2, 0] rfl ?_
  exact hR x0 x3 (x5 + 1)
def UX8_mixed_5 (R : Nat → Int64 → Int32 → qP Int64) (x0 : Nat) (x3 : Int64) (x5 : Int32) : qP Int64 :=
if (1 : Int32) < x5 then (
qr x3) else (
WX8_mixed_14 (UX8_mixed_52 R) 1000000 x0 x3 x5 (0 : Int32))
set_option maxRecDepth 100000 in
set_option maxHeartbeats 4000000 in
theorem UX8_mixed_5_ok {l : Launch} {g : qG} {d n : Nat} {R : Nat → Int64 → Int32 → qP Int64} (hR : ∀ (x0 : Nat) (x3 : Int64) (x5 : Int32), qS l g mX8_mixed d n 0 0 0 0 cvL 5 [(0, .ref x0), (3, .long x3), (5, .int x5)] [] (R x0 x3 x5)) (x0 : Nat) (x3 : Int64) (x5 : Int32) : qS l g mX8_mixed d n 0 0 0 0 cvL 5 [(0, .ref x0), (3, .long x3), (5, .int x5)] [] (UX8_mixed_5 R x0 x3 x5) := by
  unfold UX8_mixed_5
  refine s_iload dX8_mixed_5 rfl ?_
  refine s_iconst (v := 1) dX8_mixed_7 (by decide) ?_
  refine s_icmp_gt (tgt := 58) dX8_mixed_8 (by decide) (fun c1 => ?_) (fun c1 => ?_)
  · refine s_lload_n dX8_mixed_58 rfl ?_
    exact s_lreturn dX8_mixed_59 rfl
  · refine s_iconst (v := 0) dX8_mixed_11 (by decide) ?_
    refine s_istore (lv' := [(6, .int (0 : Int32)), (0, .ref x0), (3, .long x3), (5, .int x5)]) dX8_mixed_12 (by decide) rfl ?_
    refine s_locals [1, 2, 3, 0] rfl ?_
    exact WX8_mixed_14_ok (UX8_mixed_52_ok hR) 1000000 x0 x3 x5 (0 : Int32)
def WX8_mixed_5 : Nat → Nat → Int64 → Int32 → qP Int64
  | 0 => fun _ _ _ => qfail
  | N + 1 => fun x0 x3 x5 => UX8_mixed_5 (WX8_mixed_5  N)  x0 x3 x5
theorem WX8_mixed_5_ok {l : Launch} {g : qG} {d n : Nat} : ∀ (N : Nat) (x0 : Nat) (x3 : Int64) (x5 : Int32), qS l g mX8_mixed d n 0 0 0 0 cvL 5 [(0, .ref x0), (3, .long x3), (5, .int x5)] [] (WX8_mixed_5  N x0 x3 x5) := by
  intro N
  induction N with
  | zero => intro x0 x3 x5; exact s_fail
  | succ N ih => intro x0 x3 x5; exact UX8_mixed_5_ok ih  x0 x3 x5
def FX8_mixed (x0 : Nat) (x1 : Int64) : qP Int64 :=
WX8_mixed_5 1000000 x0 x1 (0 : Int32)
set_option maxRecDepth 100000 in
set_option maxHeartbeats 4000000 in
theorem FX8_mixed_ok {l : Launch} {g : qG} {d n : Nat} (x0 : Nat) (x1 : Int64) : qS l g mX8_mixed d n 0 0 0 0 cvL 0 [(0, .ref x0), (1, .long x1)] [] (FX8_mixed x0 x1) := by
  unfold FX8_mixed
  refine s_lload_n dX8_mixed_0 rfl ?_
  refine s_lstore_n (lv' := [(3, .long x1), (0, .ref x0), (1, .long x1)]) dX8_mixed_1 (by decide) rfl ?_
  refine s_iconst (v := 0) dX8_mixed_2 (by decide) ?_
  refine s_istore (lv' := [(5, .int (0 : Int32)), (3, .long x1), (0, .ref x0), (1, .long x1)]) dX8_mixed_3 (by decide) rfl ?_
  refine s_locals [2, 1, 0] rfl ?_
  exact WX8_mixed_5_ok  1000000 x0 x1 (0 : Int32)
theorem CX8_mixed {l : Launch} {g : qG} {d : Nat} (x0 : Nat) (x1 : Int64) : qCt l g mX8_mixed d 0 0 cvL [.ref x0, .long x1] (FX8_mixed x0 x1) := s_of pn_X8 (Nat.le_of_ble_eq_true rfl) fun n => FX8_mixed_ok x0 x1
def FX8_add (x0 : Nat) (x1 : Int32) (x2 : Int32) : qP Int32 :=
if x1 < 0 then (
qr (-2 : Int32)) else (
if (1 : Int32) < x1 then (
qr (-2 : Int32)) else (
if x2 < (1 : Int32) then (
qr (-2 : Int32)) else (
if x2 ≤ (9 : Int32) then (
qb (gR 8 x0 1) fun v1 =>
qb (aI v1 x1) fun v2 =>
if v2 < (4 : Int32) then (
qb (gR 8 x0 0) fun v3 =>
qb (gR 8 x0 1) fun v4 =>
qb (aI v4 x1) fun v5 =>
qb (sI v3 ((x1 * (4 : Int32)) + v5) x2) fun _ =>
qb (gR 8 x0 1) fun v6 =>
qb (aI v6 x1) fun v7 =>
qb (sI v6 x1 (v7 + (1 : Int32))) fun _ =>
qb (gR 8 x0 1) fun v8 =>
qb (aI v8 x1) fun v9 =>
qr (v9 - (1 : Int32))) else (
qr (-4 : Int32))) else (
qr (-2 : Int32)))))
set_option maxRecDepth 100000 in
set_option maxHeartbeats 4000000 in
theorem FX8_add_ok {l : Launch} {g : qG} {d n : Nat} (x0 : Nat) (x1 : Int32) (x2 : Int32) : qS l g mX8_add d n 0 0 0 0 cvI 0 [(0, .ref x0), (1, .int x1), (2, .int x2)] [] (FX8_add x0 x1 x2) := by
  unfold FX8_add
  refine s_iload_n dX8_add_0 rfl ?_
  refine s_if_lt (tgt := 20) dX8_add_1 (by decide) (fun c1 => ?_) (fun c1 => ?_)
  · refine s_bipush (v := -2) dX8_add_20 (by decide) ?_
    exact s_ireturn dX8_add_22 rfl rfl
  · refine s_iload_n dX8_add_4 rfl ?_
    refine s_iconst (v := 1) dX8_add_5 (by decide) ?_
    refine s_icmp_gt (tgt := 20) dX8_add_6 (by decide) (fun c2 => ?_) (fun c2 => ?_)
    · refine s_bipush (v := -2) dX8_add_20 (by decide) ?_
      exact s_ireturn dX8_add_22 rfl rfl
    · refine s_iload_n dX8_add_9 rfl ?_
      refine s_iconst (v := 1) dX8_add_10 (by decide) ?_
      refine s_icmp_lt (tgt := 20) dX8_add_11 (by decide) (fun c3 => ?_) (fun c3 => ?_)
      · refine s_bipush (v := -2) dX8_add_20 (by decide) ?_
        exact s_ireturn dX8_add_22 rfl rfl
      · refine s_iload_n dX8_add_14 rfl ?_
        refine s_bipush (v := 9) dX8_add_15 (by decide) ?_
        refine s_icmp_le (tgt := 23) dX8_add_17 (by decide) (fun c4 => ?_) (fun c4 => ?_)
        · refine s_aload_n dX8_add_23 rfl ?_
          refine s_gR dX8_add_24 fX8_15 fun v1 => ?_
          refine s_iload_n dX8_add_27 rfl ?_
          refine s_aI dX8_add_28 fun v2 => ?_
          refine s_iconst (v := 4) dX8_add_29 (by decide) ?_
          refine s_icmp_lt (tgt := 36) dX8_add_30 (by decide) (fun c5 => ?_) (fun c5 => ?_)
          · refine s_aload_n dX8_add_36 rfl ?_
            refine s_gR dX8_add_37 fX8_11 fun v3 => ?_
            refine s_iload_n dX8_add_40 rfl ?_
            refine s_iconst (v := 4) dX8_add_41 (by decide) ?_
            refine s_imul dX8_add_42 ?_
            refine s_aload_n dX8_add_43 rfl ?_
            refine s_gR dX8_add_44 fX8_15 fun v4 => ?_
            refine s_iload_n dX8_add_47 rfl ?_
            refine s_aI dX8_add_48 fun v5 => ?_
            refine s_iadd dX8_add_49 ?_
            refine s_iload_n dX8_add_50 rfl ?_
            refine s_sI dX8_add_51 ?_
            refine s_aload_n dX8_add_52 rfl ?_
            refine s_gR dX8_add_53 fX8_15 fun v6 => ?_
            refine s_iload_n dX8_add_56 rfl ?_
            refine s_dup2 dX8_add_57 rfl rfl ?_
            refine s_aI dX8_add_58 fun v7 => ?_
            refine s_iconst (v := 1) dX8_add_59 (by decide) ?_
            refine s_iadd dX8_add_60 ?_
            refine s_sI dX8_add_61 ?_
            refine s_aload_n dX8_add_62 rfl ?_
            refine s_gR dX8_add_63 fX8_15 fun v8 => ?_
            refine s_iload_n dX8_add_66 rfl ?_
            refine s_aI dX8_add_67 fun v9 => ?_
            refine s_iconst (v := 1) dX8_add_68 (by decide) ?_
            refine s_isub dX8_add_69 ?_
            exact s_ireturn dX8_add_70 rfl rfl
          · refine s_bipush (v := -4) dX8_add_33 (by decide) ?_
            exact s_ireturn dX8_add_35 rfl rfl
        · refine s_bipush (v := -2) dX8_add_20 (by decide) ?_
          exact s_ireturn dX8_add_22 rfl rfl
theorem CX8_add {l : Launch} {g : qG} {d : Nat} (x0 : Nat) (x1 : Int32) (x2 : Int32) : qCt l g mX8_add d 0 0 cvI [.ref x0, .int x1, .int x2] (FX8_add x0 x1 x2) := s_of pn_X8 (Nat.le_of_ble_eq_true rfl) fun n => FX8_add_ok x0 x1 x2
def UX8_weight_41 (R : Nat → Int32 → Int32 → Int32 → Int32 → qP Int32) (x0 : Nat) (x1 : Int32) (x2 : Int32) (x4 : Int32) (s0 : Int32) (s1 : Int32) : qP Int32 :=
R x0 x1 x2 (s0 + s1) (x4 + 1)
set_option maxRecDepth 100000 in
set_option maxHeartbeats 4000000 in
theorem UX8_weight_41_ok {l : Launch} {g : qG} {d n : Nat} {R : Nat → Int32 → Int32 → Int32 → Int32 → qP Int32} (hR : ∀ (x0 : Nat) (x1 : Int32) (x2 : Int32) (x3 : Int32) (x4 : Int32), qS l g mX8_weight (d + 1) n 0 0 0 0 cvI 5 [(0, .ref x0), (1, .int x1), (2, .int x2), (3, .int x3), (4, .int x4)] [] (R x0 x1 x2 x3 x4)) (x0 : Nat) (x1 : Int32) (x2 : Int32) (x4 : Int32) (s0 : Int32) (s1 : Int32) : qS l g mX8_weight (d + 1) n 0 0 0 0 cvI 41 [(0, .ref x0), (1, .int x1), (2, .int x2), (4, .int x4)] [.int s1, .int s0] (UX8_weight_41 R x0 x1 x2 x4 s0 s1) := by
  unfold UX8_weight_41
  refine s_iadd dX8_weight_41 ?_
  refine s_istore_n (lv' := [(3, .int (s0 + s1)), (0, .ref x0), (1, .int x1), (2, .int x2), (4, .int x4)]) dX8_weight_42 (by decide) rfl ?_
  refine s_iinc (lv' := [(4, .int (x4 + 1)), (3, .int (s0 + s1)), (0, .ref x0), (1, .int x1), (2, .int x2)]) dX8_weight_43 rfl (by decide) rfl ?_
  refine s_goto (tgt := 5) dX8_weight_46 (by decide) ?_
  refine s_locals [2, 3, 4, 1, 0] rfl ?_
  exact hR x0 x1 x2 (s0 + s1) (x4 + 1)
def UX8_weight_5 (R : Nat → Int32 → Int32 → Int32 → Int32 → qP Int32) (x0 : Nat) (x1 : Int32) (x2 : Int32) (x3 : Int32) (x4 : Int32) : qP Int32 :=
qb (gR 8 x0 1) fun v1 =>
qb (aI v1 x1) fun v2 =>
if v2 ≤ x4 then (
qr x3) else (
qb (FX11_isSet x2 x4) fun v3 =>
if v3 = 0 then (
UX8_weight_41 R x0 x1 x2 x4 x3 (0 : Int32)) else (
qb (gR 8 x0 0) fun v4 =>
qb (aI v4 ((x1 * (4 : Int32)) + x4)) fun v5 =>
UX8_weight_41 R x0 x1 x2 x4 x3 v5))
set_option maxRecDepth 100000 in
set_option maxHeartbeats 4000000 in
theorem UX8_weight_5_ok {l : Launch} {g : qG} {d n : Nat} {R : Nat → Int32 → Int32 → Int32 → Int32 → qP Int32} (hR : ∀ (x0 : Nat) (x1 : Int32) (x2 : Int32) (x3 : Int32) (x4 : Int32), qS l g mX8_weight (d + 1) n 0 0 0 0 cvI 5 [(0, .ref x0), (1, .int x1), (2, .int x2), (3, .int x3), (4, .int x4)] [] (R x0 x1 x2 x3 x4)) (x0 : Nat) (x1 : Int32) (x2 : Int32) (x3 : Int32) (x4 : Int32) : qS l g mX8_weight (d + 1) n 0 0 0 0 cvI 5 [(0, .ref x0), (1, .int x1), (2, .int x2), (3, .int x3), (4, .int x4)] [] (UX8_weight_5 R x0 x1 x2 x3 x4) := by
  unfold UX8_weight_5
  refine s_iload dX8_weight_5 rfl ?_
  refine s_aload_n dX8_weight_7 rfl ?_
  refine s_gR dX8_weight_8 fX8_15 fun v1 => ?_
  refine s_iload_n dX8_weight_11 rfl ?_
  refine s_aI dX8_weight_12 fun v2 => ?_
  refine s_icmp_ge (tgt := 49) dX8_weight_13 (by decide) (fun c1 => ?_) (fun c1 => ?_)
  · refine s_iload_n dX8_weight_49 rfl ?_
    exact s_ireturn dX8_weight_50 rfl rfl
  · refine s_iload_n dX8_weight_16 rfl ?_
    refine s_iload_n dX8_weight_17 rfl ?_
    refine s_iload dX8_weight_18 rfl ?_
    refine s_staticNI (as := [.int x2, .int x4]) (rest := [.int x3]) dX8_weight_20 sX8_41 (CX11_isSet _ _) (Nat.le_of_ble_eq_true rfl) ⟨Nat.le_refl _, Nat.le_refl _⟩ fun v3 => ?_
    refine s_if_eq (tgt := 40) dX8_weight_23 (by decide) (fun c2 => ?_) (fun c2 => ?_)
    · refine s_iconst (v := 0) dX8_weight_40 (by decide) ?_
      refine s_locals [0, 1, 2, 4] rfl ?_
      exact UX8_weight_41_ok hR x0 x1 x2 x4 x3 (0 : Int32)
    · refine s_aload_n dX8_weight_26 rfl ?_
      refine s_gR dX8_weight_27 fX8_11 fun v4 => ?_
      refine s_iload_n dX8_weight_30 rfl ?_
      refine s_iconst (v := 4) dX8_weight_31 (by decide) ?_
      refine s_imul dX8_weight_32 ?_
      refine s_iload dX8_weight_33 rfl ?_
      refine s_iadd dX8_weight_35 ?_
      refine s_aI dX8_weight_36 fun v5 => ?_
      refine s_goto (tgt := 41) dX8_weight_37 (by decide) ?_
      refine s_locals [0, 1, 2, 4] rfl ?_
      exact UX8_weight_41_ok hR x0 x1 x2 x4 x3 v5
def WX8_weight_5 : Nat → Nat → Int32 → Int32 → Int32 → Int32 → qP Int32
  | 0 => fun _ _ _ _ _ => qfail
  | N + 1 => fun x0 x1 x2 x3 x4 => UX8_weight_5 (WX8_weight_5  N)  x0 x1 x2 x3 x4
theorem WX8_weight_5_ok {l : Launch} {g : qG} {d n : Nat} : ∀ (N : Nat) (x0 : Nat) (x1 : Int32) (x2 : Int32) (x3 : Int32) (x4 : Int32), qS l g mX8_weight (d + 1) n 0 0 0 0 cvI 5 [(0, .ref x0), (1, .int x1), (2, .int x2), (3, .int x3), (4, .int x4)] [] (WX8_weight_5  N x0 x1 x2 x3 x4) := by
  intro N
  induction N with
  | zero => intro x0 x1 x2 x3 x4; exact s_fail
  | succ N ih => intro x0 x1 x2 x3 x4; exact UX8_weight_5_ok ih  x0 x1 x2 x3 x4
def FX8_weight (x0 : Nat) (x1 : Int32) (x2 : Int32) : qP Int32 :=
WX8_weight_5 1000000 x0 x1 x2 (0 : Int32) (0 : Int32)
set_option maxRecDepth 100000 in
set_option maxHeartbeats 4000000 in
theorem FX8_weight_ok {l : Launch} {g : qG} {d n : Nat} (x0 : Nat) (x1 : Int32) (x2 : Int32) : qS l g mX8_weight (d + 1) n 0 0 0 0 cvI 0 [(0, .ref x0), (1, .int x1), (2, .int x2)] [] (FX8_weight x0 x1 x2) := by
  unfold FX8_weight
  refine s_iconst (v := 0) dX8_weight_0 (by decide) ?_
  refine s_istore_n (lv' := [(3, .int (0 : Int32)), (0, .ref x0), (1, .int x1), (2, .int x2)]) dX8_weight_1 (by decide) rfl ?_
  refine s_iconst (v := 0) dX8_weight_2 (by decide) ?_
  refine s_istore (lv' := [(4, .int (0 : Int32)), (3, .int (0 : Int32)), (0, .ref x0), (1, .int x1), (2, .int x2)]) dX8_weight_3 (by decide) rfl ?_
  refine s_locals [2, 3, 4, 1, 0] rfl ?_
  exact WX8_weight_5_ok  1000000 x0 x1 x2 (0 : Int32) (0 : Int32)
theorem CX8_weight {l : Launch} {g : qG} {d : Nat} (x0 : Nat) (x1 : Int32) (x2 : Int32) : qCt l g mX8_weight (d + 1) 0 0 cvI [.ref x0, .int x1, .int x2] (FX8_weight x0 x1 x2) := s_of pn_X8 (Nat.le_of_ble_eq_true rfl) fun n => FX8_weight_ok x0 x1 x2
def UX8_endBehind_169 (R : Nat → Int32 → Int32 → Int32 → Int32 → Int32 → Int32 → Int32 → qP Int32) (K196 : Int32 → Int32 → qP Int32) (x0 : Nat) (x2 : Int32) (x3 : Int32) (x4 : Int32) (x5 : Int32) (x6 : Int32) (x7 : Int32) (x8 : Int32) (x9 : Int32) (x10 : Int32) (s0 : Int32) : qP Int32 :=
if x10 = 0 then (
R x0 x2 x3 x4 x5 x6 x7 (x8 + 1)) else (
if s0 = 0 then (
R x0 x2 x3 x4 x5 x6 x7 (x8 + 1)) else (
qb (gR 8 x0 2) fun v1 =>
qb (aI v1 x9) fun v2 =>
R x0 x2 x3 x4 x5 x6 v2 (x8 + 1)))
set_option maxRecDepth 100000 in
set_option maxHeartbeats 4000000 in
theorem UX8_endBehind_169_ok {l : Launch} {g : qG} {d n : Nat} {R : Nat → Int32 → Int32 → Int32 → Int32 → Int32 → Int32 → Int32 → qP Int32} (hR : ∀ (x0 : Nat) (x2 : Int32) (x3 : Int32) (x4 : Int32) (x5 : Int32) (x6 : Int32) (x7 : Int32) (x8 : Int32), qS l g mX8_endBehind (d + 2) n 0 0 0 0 cvI 64 [(0, .ref x0), (2, .int x2), (3, .int x3), (4, .int x4), (5, .int x5), (6, .int x6), (7, .int x7), (8, .int x8)] [] (R x0 x2 x3 x4 x5 x6 x7 x8)) {K196 : Int32 → Int32 → qP Int32} (hK196 : ∀ (x4 : Int32) (x7 : Int32), qS l g mX8_endBehind (d + 2) n 0 0 0 0 cvI 196 [(4, .int x4), (7, .int x7)] [] (K196 x4 x7)) (x0 : Nat) (x2 : Int32) (x3 : Int32) (x4 : Int32) (x5 : Int32) (x6 : Int32) (x7 : Int32) (x8 : Int32) (x9 : Int32) (x10 : Int32) (s0 : Int32) : qS l g mX8_endBehind (d + 2) n 0 0 0 0 cvI 169 [(0, .ref x0), (2, .int x2), (3, .int x3), (4, .int x4), (5, .int x5), (6, .int x6), (7, .int x7), (8, .int x8), (9, .int x9), (10, .int x10)] [.int s0] (UX8_endBehind_169 R K196 x0 x2 x3 x4 x5 x6 x7 x8 x9 x10 s0) := by
  unfold UX8_endBehind_169
  refine s_istore (lv' := [(11, .int s0), (0, .ref x0), (2, .int x2), (3, .int x3), (4, .int x4), (5, .int x5), (6, .int x6), (7, .int x7), (8, .int x8), (9, .int x9), (10, .int x10)]) dX8_endBehind_169 (by decide) rfl ?_
  refine s_iload dX8_endBehind_171 rfl ?_
  refine s_if_eq (tgt := 190) dX8_endBehind_173 (by decide) (fun c1 => ?_) (fun c1 => ?_)
  · refine s_iinc (lv' := [(8, .int (x8 + 1)), (11, .int s0), (0, .ref x0), (2, .int x2), (3, .int x3), (4, .int x4), (5, .int x5), (6, .int x6), (7, .int x7), (9, .int x9), (10, .int x10)]) dX8_endBehind_190 rfl (by decide) rfl ?_
    refine s_goto (tgt := 64) dX8_endBehind_193 (by decide) ?_
    refine s_locals [2, 3, 4, 5, 6, 7, 8, 0] rfl ?_
    exact hR x0 x2 x3 x4 x5 x6 x7 (x8 + 1)
  · refine s_iload dX8_endBehind_176 rfl ?_
    refine s_if_eq (tgt := 190) dX8_endBehind_178 (by decide) (fun c2 => ?_) (fun c2 => ?_)
    · refine s_iinc (lv' := [(8, .int (x8 + 1)), (11, .int s0), (0, .ref x0), (2, .int x2), (3, .int x3), (4, .int x4), (5, .int x5), (6, .int x6), (7, .int x7), (9, .int x9), (10, .int x10)]) dX8_endBehind_190 rfl (by decide) rfl ?_
      refine s_goto (tgt := 64) dX8_endBehind_193 (by decide) ?_
      refine s_locals [2, 3, 4, 5, 6, 7, 8, 0] rfl ?_
      exact hR x0 x2 x3 x4 x5 x6 x7 (x8 + 1)
    · refine s_aload_n dX8_endBehind_181 rfl ?_
      refine s_gR dX8_endBehind_182 fX8_18 fun v1 => ?_
      refine s_iload dX8_endBehind_185 rfl ?_
      refine s_aI dX8_endBehind_187 fun v2 => ?_
      refine s_istore (lv' := [(7, .int v2), (11, .int s0), (0, .ref x0), (2, .int x2), (3, .int x3), (4, .int x4), (5, .int x5), (6, .int x6), (8, .int x8), (9, .int x9), (10, .int x10)]) dX8_endBehind_188 (by decide) rfl ?_
      refine s_iinc (lv' := [(8, .int (x8 + 1)), (7, .int v2), (11, .int s0), (0, .ref x0), (2, .int x2), (3, .int x3), (4, .int x4), (5, .int x5), (6, .int x6), (9, .int x9), (10, .int x10)]) dX8_endBehind_190 rfl (by decide) rfl ?_
      refine s_goto (tgt := 64) dX8_endBehind_193 (by decide) ?_
      refine s_locals [3, 4, 5, 6, 7, 8, 1, 0] rfl ?_
      exact hR x0 x2 x3 x4 x5 x6 v2 (x8 + 1)
def UX8_endBehind_124 (R : Nat → Int32 → Int32 → Int32 → Int32 → Int32 → Int32 → Int32 → qP Int32) (K196 : Int32 → Int32 → qP Int32) (x0 : Nat) (x2 : Int32) (x3 : Int32) (x4 : Int32) (x5 : Int32) (x6 : Int32) (x7 : Int32) (x8 : Int32) (x9 : Int32) (s0 : Int32) : qP Int32 :=
if x7 = (-1 : Int32) then (
UX8_endBehind_169 R K196 x0 x2 x3 x4 x5 x6 x7 x8 x9 s0 (1 : Int32)) else (
if x5 = 0 then (
qb (gR 8 x0 2) fun v1 =>
qb (aI v1 x9) fun v2 =>
if x7 ≤ v2 then (
UX8_endBehind_169 R K196 x0 x2 x3 x4 x5 x6 x7 x8 x9 s0 (0 : Int32)) else (
UX8_endBehind_169 R K196 x0 x2 x3 x4 x5 x6 x7 x8 x9 s0 (1 : Int32))) else (
qb (gR 8 x0 2) fun v3 =>
qb (aI v3 x9) fun v4 =>
if v4 ≤ x7 then (
UX8_endBehind_169 R K196 x0 x2 x3 x4 x5 x6 x7 x8 x9 s0 (0 : Int32)) else (
UX8_endBehind_169 R K196 x0 x2 x3 x4 x5 x6 x7 x8 x9 s0 (1 : Int32))))
set_option maxRecDepth 100000 in
set_option maxHeartbeats 4000000 in
theorem UX8_endBehind_124_ok {l : Launch} {g : qG} {d n : Nat} {R : Nat → Int32 → Int32 → Int32 → Int32 → Int32 → Int32 → Int32 → qP Int32} (hR : ∀ (x0 : Nat) (x2 : Int32) (x3 : Int32) (x4 : Int32) (x5 : Int32) (x6 : Int32) (x7 : Int32) (x8 : Int32), qS l g mX8_endBehind (d + 2) n 0 0 0 0 cvI 64 [(0, .ref x0), (2, .int x2), (3, .int x3), (4, .int x4), (5, .int x5), (6, .int x6), (7, .int x7), (8, .int x8)] [] (R x0 x2 x3 x4 x5 x6 x7 x8)) {K196 : Int32 → Int32 → qP Int32} (hK196 : ∀ (x4 : Int32) (x7 : Int32), qS l g mX8_endBehind (d + 2) n 0 0 0 0 cvI 196 [(4, .int x4), (7, .int x7)] [] (K196 x4 x7)) (x0 : Nat) (x2 : Int32) (x3 : Int32) (x4 : Int32) (x5 : Int32) (x6 : Int32) (x7 : Int32) (x8 : Int32) (x9 : Int32) (s0 : Int32) : qS l g mX8_endBehind (d + 2) n 0 0 0 0 cvI 124 [(0, .ref x0), (2, .int x2), (3, .int x3), (4, .int x4), (5, .int x5), (6, .int x6), (7, .int x7), (8, .int x8), (9, .int x9)] [.int s0] (UX8_endBehind_124 R K196 x0 x2 x3 x4 x5 x6 x7 x8 x9 s0) := by
  unfold UX8_endBehind_124
  refine s_istore (lv' := [(10, .int s0), (0, .ref x0), (2, .int x2), (3, .int x3), (4, .int x4), (5, .int x5), (6, .int x6), (7, .int x7), (8, .int x8), (9, .int x9)]) dX8_endBehind_124 (by decide) rfl ?_
  refine s_iload dX8_endBehind_126 rfl ?_
  refine s_iconst (v := -1) dX8_endBehind_128 (by decide) ?_
  refine s_icmp_eq (tgt := 164) dX8_endBehind_129 (by decide) (fun c1 => ?_) (fun c1 => ?_)
  · refine s_iconst (v := 1) dX8_endBehind_164 (by decide) ?_
    refine s_goto (tgt := 169) dX8_endBehind_165 (by decide) ?_
    refine s_locals [1, 2, 3, 4, 5, 6, 7, 8, 9, 0] rfl ?_
    exact UX8_endBehind_169_ok hR hK196 x0 x2 x3 x4 x5 x6 x7 x8 x9 s0 (1 : Int32)
  · refine s_iload dX8_endBehind_132 rfl ?_
    refine s_if_eq (tgt := 152) dX8_endBehind_134 (by decide) (fun c2 => ?_) (fun c2 => ?_)
    · refine s_aload_n dX8_endBehind_152 rfl ?_
      refine s_gR dX8_endBehind_153 fX8_18 fun v1 => ?_
      refine s_iload dX8_endBehind_156 rfl ?_
      refine s_aI dX8_endBehind_158 fun v2 => ?_
      refine s_iload dX8_endBehind_159 rfl ?_
      refine s_icmp_ge (tgt := 168) dX8_endBehind_161 (by decide) (fun c3 => ?_) (fun c3 => ?_)
      · refine s_iconst (v := 0) dX8_endBehind_168 (by decide) ?_
        refine s_locals [1, 2, 3, 4, 5, 6, 7, 8, 9, 0] rfl ?_
        exact UX8_endBehind_169_ok hR hK196 x0 x2 x3 x4 x5 x6 x7 x8 x9 s0 (0 : Int32)
      · refine s_iconst (v := 1) dX8_endBehind_164 (by decide) ?_
        refine s_goto (tgt := 169) dX8_endBehind_165 (by decide) ?_
        refine s_locals [1, 2, 3, 4, 5, 6, 7, 8, 9, 0] rfl ?_
        exact UX8_endBehind_169_ok hR hK196 x0 x2 x3 x4 x5 x6 x7 x8 x9 s0 (1 : Int32)
    · refine s_aload_n dX8_endBehind_137 rfl ?_
      refine s_gR dX8_endBehind_138 fX8_18 fun v3 => ?_
      refine s_iload dX8_endBehind_141 rfl ?_
      refine s_aI dX8_endBehind_143 fun v4 => ?_
      refine s_iload dX8_endBehind_144 rfl ?_
      refine s_icmp_le (tgt := 168) dX8_endBehind_146 (by decide) (fun c4 => ?_) (fun c4 => ?_)
      · refine s_iconst (v := 0) dX8_endBehind_168 (by decide) ?_
        refine s_locals [1, 2, 3, 4, 5, 6, 7, 8, 9, 0] rfl ?_
        exact UX8_endBehind_169_ok hR hK196 x0 x2 x3 x4 x5 x6 x7 x8 x9 s0 (0 : Int32)
      · refine s_goto (tgt := 164) dX8_endBehind_149 (by decide) ?_
        refine s_iconst (v := 1) dX8_endBehind_164 (by decide) ?_
        refine s_goto (tgt := 169) dX8_endBehind_165 (by decide) ?_
        refine s_locals [1, 2, 3, 4, 5, 6, 7, 8, 9, 0] rfl ?_
        exact UX8_endBehind_169_ok hR hK196 x0 x2 x3 x4 x5 x6 x7 x8 x9 s0 (1 : Int32)
def UX8_endBehind_106 (R : Nat → Int32 → Int32 → Int32 → Int32 → Int32 → Int32 → Int32 → qP Int32) (K196 : Int32 → Int32 → qP Int32) (x0 : Nat) (x2 : Int32) (x3 : Int32) (x4 : Int32) (x5 : Int32) (x6 : Int32) (x7 : Int32) (x8 : Int32) (s0 : Int32) : qP Int32 :=
if s0 = ((x2 * (16 : Int32)) + x3) then (
UX8_endBehind_124 R K196 x0 x2 x3 x4 x5 x6 x7 x8 s0 (0 : Int32)) else (
UX8_endBehind_124 R K196 x0 x2 x3 x4 x5 x6 x7 x8 s0 (1 : Int32))
set_option maxRecDepth 100000 in
set_option maxHeartbeats 4000000 in
theorem UX8_endBehind_106_ok {l : Launch} {g : qG} {d n : Nat} {R : Nat → Int32 → Int32 → Int32 → Int32 → Int32 → Int32 → Int32 → qP Int32} (hR : ∀ (x0 : Nat) (x2 : Int32) (x3 : Int32) (x4 : Int32) (x5 : Int32) (x6 : Int32) (x7 : Int32) (x8 : Int32), qS l g mX8_endBehind (d + 2) n 0 0 0 0 cvI 64 [(0, .ref x0), (2, .int x2), (3, .int x3), (4, .int x4), (5, .int x5), (6, .int x6), (7, .int x7), (8, .int x8)] [] (R x0 x2 x3 x4 x5 x6 x7 x8)) {K196 : Int32 → Int32 → qP Int32} (hK196 : ∀ (x4 : Int32) (x7 : Int32), qS l g mX8_endBehind (d + 2) n 0 0 0 0 cvI 196 [(4, .int x4), (7, .int x7)] [] (K196 x4 x7)) (x0 : Nat) (x2 : Int32) (x3 : Int32) (x4 : Int32) (x5 : Int32) (x6 : Int32) (x7 : Int32) (x8 : Int32) (s0 : Int32) : qS l g mX8_endBehind (d + 2) n 0 0 0 0 cvI 106 [(0, .ref x0), (2, .int x2), (3, .int x3), (4, .int x4), (5, .int x5), (6, .int x6), (7, .int x7), (8, .int x8)] [.int s0] (UX8_endBehind_106 R K196 x0 x2 x3 x4 x5 x6 x7 x8 s0) := by
  unfold UX8_endBehind_106
  refine s_istore (lv' := [(9, .int s0), (0, .ref x0), (2, .int x2), (3, .int x3), (4, .int x4), (5, .int x5), (6, .int x6), (7, .int x7), (8, .int x8)]) dX8_endBehind_106 (by decide) rfl ?_
  refine s_iload dX8_endBehind_108 rfl ?_
  refine s_iload_n dX8_endBehind_110 rfl ?_
  refine s_bipush (v := 16) dX8_endBehind_111 (by decide) ?_
  refine s_imul dX8_endBehind_113 ?_
  refine s_iload_n dX8_endBehind_114 rfl ?_
  refine s_iadd dX8_endBehind_115 ?_
  refine s_icmp_eq (tgt := 123) dX8_endBehind_116 (by decide) (fun c1 => ?_) (fun c1 => ?_)
  · refine s_iconst (v := 0) dX8_endBehind_123 (by decide) ?_
    refine s_locals [1, 2, 3, 4, 5, 6, 7, 8, 0] rfl ?_
    exact UX8_endBehind_124_ok hR hK196 x0 x2 x3 x4 x5 x6 x7 x8 s0 (0 : Int32)
  · refine s_iconst (v := 1) dX8_endBehind_119 (by decide) ?_
    refine s_goto (tgt := 124) dX8_endBehind_120 (by decide) ?_
    refine s_locals [1, 2, 3, 4, 5, 6, 7, 8, 0] rfl ?_
    exact UX8_endBehind_124_ok hR hK196 x0 x2 x3 x4 x5 x6 x7 x8 s0 (1 : Int32)
def UX8_endBehind_64 (R : Nat → Int32 → Int32 → Int32 → Int32 → Int32 → Int32 → Int32 → qP Int32) (K196 : Int32 → Int32 → qP Int32) (x0 : Nat) (x2 : Int32) (x3 : Int32) (x4 : Int32) (x5 : Int32) (x6 : Int32) (x7 : Int32) (x8 : Int32) : qP Int32 :=
qb (gR 8 x0 1) fun v1 =>
qb (aI v1 x6) fun v2 =>
if v2 ≤ x8 then (
K196 x4 x7) else (
if x5 = 0 then (
UX8_endBehind_106 R K196 x0 x2 x3 x4 x5 x6 x7 x8 (((x2 ||| ((1 : Int32) <<< (x8 &&& 31))) * (16 : Int32)) + x3)) else (
UX8_endBehind_106 R K196 x0 x2 x3 x4 x5 x6 x7 x8 ((x2 * (16 : Int32)) + (x3 ||| ((1 : Int32) <<< (x8 &&& 31))))))
set_option maxRecDepth 100000 in
set_option maxHeartbeats 4000000 in
theorem UX8_endBehind_64_ok {l : Launch} {g : qG} {d n : Nat} {R : Nat → Int32 → Int32 → Int32 → Int32 → Int32 → Int32 → Int32 → qP Int32} (hR : ∀ (x0 : Nat) (x2 : Int32) (x3 : Int32) (x4 : Int32) (x5 : Int32) (x6 : Int32) (x7 : Int32) (x8 : Int32), qS l g mX8_endBehind (d + 2) n 0 0 0 0 cvI 64 [(0, .ref x0), (2, .int x2), (3, .int x3), (4, .int x4), (5, .int x5), (6, .int x6), (7, .int x7), (8, .int x8)] [] (R x0 x2 x3 x4 x5 x6 x7 x8)) {K196 : Int32 → Int32 → qP Int32} (hK196 : ∀ (x4 : Int32) (x7 : Int32), qS l g mX8_endBehind (d + 2) n 0 0 0 0 cvI 196 [(4, .int x4), (7, .int x7)] [] (K196 x4 x7)) (x0 : Nat) (x2 : Int32) (x3 : Int32) (x4 : Int32) (x5 : Int32) (x6 : Int32) (x7 : Int32) (x8 : Int32) : qS l g mX8_endBehind (d + 2) n 0 0 0 0 cvI 64 [(0, .ref x0), (2, .int x2), (3, .int x3), (4, .int x4), (5, .int x5), (6, .int x6), (7, .int x7), (8, .int x8)] [] (UX8_endBehind_64 R K196 x0 x2 x3 x4 x5 x6 x7 x8) := by
  unfold UX8_endBehind_64
  refine s_iload dX8_endBehind_64 rfl ?_
  refine s_aload_n dX8_endBehind_66 rfl ?_
  refine s_gR dX8_endBehind_67 fX8_15 fun v1 => ?_
  refine s_iload dX8_endBehind_70 rfl ?_
  refine s_aI dX8_endBehind_72 fun v2 => ?_
  refine s_icmp_ge (tgt := 196) dX8_endBehind_73 (by decide) (fun c1 => ?_) (fun c1 => ?_)
  · refine s_locals [3, 6] rfl ?_
    exact hK196 x4 x7
  · refine s_iload dX8_endBehind_76 rfl ?_
    refine s_if_eq (tgt := 95) dX8_endBehind_78 (by decide) (fun c2 => ?_) (fun c2 => ?_)
    · refine s_iload_n dX8_endBehind_95 rfl ?_
      refine s_iconst (v := 1) dX8_endBehind_96 (by decide) ?_
      refine s_iload dX8_endBehind_97 rfl ?_
      refine s_ishl dX8_endBehind_99 ?_
      refine s_ior dX8_endBehind_100 ?_
      refine s_bipush (v := 16) dX8_endBehind_101 (by decide) ?_
      refine s_imul dX8_endBehind_103 ?_
      refine s_iload_n dX8_endBehind_104 rfl ?_
      refine s_iadd dX8_endBehind_105 ?_
      exact UX8_endBehind_106_ok hR hK196 x0 x2 x3 x4 x5 x6 x7 x8 (((x2 ||| ((1 : Int32) <<< (x8 &&& 31))) * (16 : Int32)) + x3)
    · refine s_iload_n dX8_endBehind_81 rfl ?_
      refine s_bipush (v := 16) dX8_endBehind_82 (by decide) ?_
      refine s_imul dX8_endBehind_84 ?_
      refine s_iload_n dX8_endBehind_85 rfl ?_
      refine s_iconst (v := 1) dX8_endBehind_86 (by decide) ?_
      refine s_iload dX8_endBehind_87 rfl ?_
      refine s_ishl dX8_endBehind_89 ?_
      refine s_ior dX8_endBehind_90 ?_
      refine s_iadd dX8_endBehind_91 ?_
      refine s_goto (tgt := 106) dX8_endBehind_92 (by decide) ?_
      exact UX8_endBehind_106_ok hR hK196 x0 x2 x3 x4 x5 x6 x7 x8 ((x2 * (16 : Int32)) + (x3 ||| ((1 : Int32) <<< (x8 &&& 31))))
def WX8_endBehind_64 (K196 : Int32 → Int32 → qP Int32) : Nat → Nat → Int32 → Int32 → Int32 → Int32 → Int32 → Int32 → Int32 → qP Int32
  | 0 => fun _ _ _ _ _ _ _ _ => qfail
  | N + 1 => fun x0 x2 x3 x4 x5 x6 x7 x8 => UX8_endBehind_64 (WX8_endBehind_64 K196 N) K196 x0 x2 x3 x4 x5 x6 x7 x8
theorem WX8_endBehind_64_ok {l : Launch} {g : qG} {d n : Nat} {K196 : Int32 → Int32 → qP Int32} (hK196 : ∀ (x4 : Int32) (x7 : Int32), qS l g mX8_endBehind (d + 2) n 0 0 0 0 cvI 196 [(4, .int x4), (7, .int x7)] [] (K196 x4 x7)) : ∀ (N : Nat) (x0 : Nat) (x2 : Int32) (x3 : Int32) (x4 : Int32) (x5 : Int32) (x6 : Int32) (x7 : Int32) (x8 : Int32), qS l g mX8_endBehind (d + 2) n 0 0 0 0 cvI 64 [(0, .ref x0), (2, .int x2), (3, .int x3), (4, .int x4), (5, .int x5), (6, .int x6), (7, .int x7), (8, .int x8)] [] (WX8_endBehind_64 K196 N x0 x2 x3 x4 x5 x6 x7 x8) := by
  intro N
  induction N with
  | zero => intro x0 x2 x3 x4 x5 x6 x7 x8; exact s_fail
  | succ N ih => intro x0 x2 x3 x4 x5 x6 x7 x8; exact UX8_endBehind_64_ok ih hK196 x0 x2 x3 x4 x5 x6 x7 x8
def UX8_endBehind_196 (x4 : Int32) (x7 : Int32) : qP Int32 :=
if x7 = (-1 : Int32) then (
qr x4) else (
qr x7)
set_option maxRecDepth 100000 in
set_option maxHeartbeats 4000000 in
theorem UX8_endBehind_196_ok {l : Launch} {g : qG} {d n : Nat} (x4 : Int32) (x7 : Int32) : qS l g mX8_endBehind (d + 2) n 0 0 0 0 cvI 196 [(4, .int x4), (7, .int x7)] [] (UX8_endBehind_196 x4 x7) := by
  unfold UX8_endBehind_196
  refine s_iload dX8_endBehind_196 rfl ?_
  refine s_iconst (v := -1) dX8_endBehind_198 (by decide) ?_
  refine s_icmp_ne (tgt := 207) dX8_endBehind_199 (by decide) (fun c1 => ?_) (fun c1 => ?_)
  · refine s_iload dX8_endBehind_202 rfl ?_
    refine s_goto (tgt := 209) dX8_endBehind_204 (by decide) ?_
    exact s_ireturn dX8_endBehind_209 rfl rfl
  · refine s_iload dX8_endBehind_207 rfl ?_
    exact s_ireturn dX8_endBehind_209 rfl rfl
def UX8_endBehind_56 (x0 : Nat) (x2 : Int32) (x3 : Int32) (x4 : Int32) (x5 : Int32) (s0 : Int32) : qP Int32 :=
WX8_endBehind_64 (UX8_endBehind_196) 1000000 x0 x2 x3 x4 x5 s0 (-1 : Int32) (0 : Int32)
set_option maxRecDepth 100000 in
set_option maxHeartbeats 4000000 in
theorem UX8_endBehind_56_ok {l : Launch} {g : qG} {d n : Nat} (x0 : Nat) (x2 : Int32) (x3 : Int32) (x4 : Int32) (x5 : Int32) (s0 : Int32) : qS l g mX8_endBehind (d + 2) n 0 0 0 0 cvI 56 [(0, .ref x0), (2, .int x2), (3, .int x3), (4, .int x4), (5, .int x5)] [.int s0] (UX8_endBehind_56 x0 x2 x3 x4 x5 s0) := by
  unfold UX8_endBehind_56
  refine s_istore (lv' := [(6, .int s0), (0, .ref x0), (2, .int x2), (3, .int x3), (4, .int x4), (5, .int x5)]) dX8_endBehind_56 (by decide) rfl ?_
  refine s_iconst (v := -1) dX8_endBehind_58 (by decide) ?_
  refine s_istore (lv' := [(7, .int (-1 : Int32)), (6, .int s0), (0, .ref x0), (2, .int x2), (3, .int x3), (4, .int x4), (5, .int x5)]) dX8_endBehind_59 (by decide) rfl ?_
  refine s_iconst (v := 0) dX8_endBehind_61 (by decide) ?_
  refine s_istore (lv' := [(8, .int (0 : Int32)), (7, .int (-1 : Int32)), (6, .int s0), (0, .ref x0), (2, .int x2), (3, .int x3), (4, .int x4), (5, .int x5)]) dX8_endBehind_62 (by decide) rfl ?_
  refine s_locals [3, 4, 5, 6, 7, 2, 1, 0] rfl ?_
  exact WX8_endBehind_64_ok (UX8_endBehind_196_ok) 1000000 x0 x2 x3 x4 x5 s0 (-1 : Int32) (0 : Int32)
def UX8_endBehind_44 (x0 : Nat) (x2 : Int32) (x3 : Int32) (x4 : Int32) (s0 : Int32) : qP Int32 :=
if s0 = 0 then (
UX8_endBehind_56 x0 x2 x3 x4 s0 (0 : Int32)) else (
UX8_endBehind_56 x0 x2 x3 x4 s0 (1 : Int32))
set_option maxRecDepth 100000 in
set_option maxHeartbeats 4000000 in
theorem UX8_endBehind_44_ok {l : Launch} {g : qG} {d n : Nat} (x0 : Nat) (x2 : Int32) (x3 : Int32) (x4 : Int32) (s0 : Int32) : qS l g mX8_endBehind (d + 2) n 0 0 0 0 cvI 44 [(0, .ref x0), (2, .int x2), (3, .int x3), (4, .int x4)] [.int s0] (UX8_endBehind_44 x0 x2 x3 x4 s0) := by
  unfold UX8_endBehind_44
  refine s_istore (lv' := [(5, .int s0), (0, .ref x0), (2, .int x2), (3, .int x3), (4, .int x4)]) dX8_endBehind_44 (by decide) rfl ?_
  refine s_iload dX8_endBehind_46 rfl ?_
  refine s_if_eq (tgt := 55) dX8_endBehind_48 (by decide) (fun c1 => ?_) (fun c1 => ?_)
  · refine s_iconst (v := 0) dX8_endBehind_55 (by decide) ?_
    refine s_locals [1, 2, 3, 4, 0] rfl ?_
    exact UX8_endBehind_56_ok x0 x2 x3 x4 s0 (0 : Int32)
  · refine s_iconst (v := 1) dX8_endBehind_51 (by decide) ?_
    refine s_goto (tgt := 56) dX8_endBehind_52 (by decide) ?_
    refine s_locals [1, 2, 3, 4, 0] rfl ?_
    exact UX8_endBehind_56_ok x0 x2 x3 x4 s0 (1 : Int32)
def FX8_endBehind (x0 : Nat) (x1 : Int32) (x2 : Int32) (x3 : Int32) : qP Int32 :=
qb (FJ6_bitCount_0f7a4 x2) fun v1 =>
qb (FJ6_bitCount_0f7a4 x3) fun v2 =>
qb (qcl 8 x0) fun _ => qb (FX8_weight x0 (0 : Int32) x2) fun v3 =>
qb (qcl 8 x0) fun _ => qb (FX8_weight x0 (1 : Int32) x3) fun v4 =>
if (v3 - v4) < x1 then (
if ((v1 + v2) - (v1 + v2) / (2 : Int32) * (2 : Int32)) = (1 : Int32) then (
UX8_endBehind_44 x0 x2 x3 (v1 + v2) (1 : Int32)) else (
UX8_endBehind_44 x0 x2 x3 (v1 + v2) (0 : Int32))) else (
qr (v1 + v2))
set_option maxRecDepth 100000 in
set_option maxHeartbeats 4000000 in
theorem FX8_endBehind_ok {l : Launch} {g : qG} {d n : Nat} (x0 : Nat) (x1 : Int32) (x2 : Int32) (x3 : Int32) : qS l g mX8_endBehind (d + 2) n 0 0 0 0 cvI 0 [(0, .ref x0), (1, .int x1), (2, .int x2), (3, .int x3)] [] (FX8_endBehind x0 x1 x2 x3) := by
  unfold FX8_endBehind
  refine s_iload_n dX8_endBehind_0 rfl ?_
  refine s_staticI (as := [.int x2]) (rest := []) dX8_endBehind_1 sX8_27 (CJ6_bitCount_0f7a4 _) (Nat.le_of_ble_eq_true rfl) ⟨Nat.le_refl _, Nat.le_refl _⟩ fun v1 => ?_
  refine s_iload_n dX8_endBehind_4 rfl ?_
  refine s_staticI (as := [.int x3]) (rest := [.int v1]) dX8_endBehind_5 sX8_27 (CJ6_bitCount_0f7a4 _) (Nat.le_of_ble_eq_true rfl) ⟨Nat.le_refl _, Nat.le_refl _⟩ fun v2 => ?_
  refine s_iadd dX8_endBehind_8 ?_
  refine s_istore (lv' := [(4, .int (v1 + v2)), (0, .ref x0), (1, .int x1), (2, .int x2), (3, .int x3)]) dX8_endBehind_9 (by decide) rfl ?_
  refine s_aload_n dX8_endBehind_11 rfl ?_
  refine s_iconst (v := 0) dX8_endBehind_12 (by decide) ?_
  refine s_iload_n dX8_endBehind_13 rfl ?_
  refine s_virtI (as := [.int (0 : Int32), .int x2]) (rest := []) dX8_endBehind_14 vX8_37 (CX8_weight _ _ _) (Nat.le_of_ble_eq_true rfl) ⟨Nat.le_refl _, Nat.le_refl _⟩ fun v3 => ?_
  refine s_aload_n dX8_endBehind_17 rfl ?_
  refine s_iconst (v := 1) dX8_endBehind_18 (by decide) ?_
  refine s_iload_n dX8_endBehind_19 rfl ?_
  refine s_virtI (as := [.int (1 : Int32), .int x3]) (rest := [.int v3]) dX8_endBehind_20 vX8_37 (CX8_weight _ _ _) (Nat.le_of_ble_eq_true rfl) ⟨Nat.le_refl _, Nat.le_refl _⟩ fun v4 => ?_
  refine s_isub dX8_endBehind_23 ?_
  refine s_iload_n dX8_endBehind_24 rfl ?_
  refine s_icmp_lt (tgt := 31) dX8_endBehind_25 (by decide) (fun c1 => ?_) (fun c1 => ?_)
  · refine s_iload dX8_endBehind_31 rfl ?_
    refine s_iconst (v := 2) dX8_endBehind_33 (by decide) ?_
    refine s_irem dX8_endBehind_34 (by decide) ?_
    refine s_iconst (v := 1) dX8_endBehind_35 (by decide) ?_
    refine s_icmp_ne (tgt := 43) dX8_endBehind_36 (by decide) (fun c2 => ?_) (fun c2 => ?_)
    · refine s_iconst (v := 1) dX8_endBehind_39 (by decide) ?_
      refine s_goto (tgt := 44) dX8_endBehind_40 (by decide) ?_
      refine s_locals [1, 3, 4, 0] rfl ?_
      exact UX8_endBehind_44_ok x0 x2 x3 (v1 + v2) (1 : Int32)
    · refine s_iconst (v := 0) dX8_endBehind_43 (by decide) ?_
      refine s_locals [1, 3, 4, 0] rfl ?_
      exact UX8_endBehind_44_ok x0 x2 x3 (v1 + v2) (0 : Int32)
  · refine s_iload dX8_endBehind_28 rfl ?_
    exact s_ireturn dX8_endBehind_30 rfl rfl
theorem CX8_endBehind {l : Launch} {g : qG} {d : Nat} (x0 : Nat) (x1 : Int32) (x2 : Int32) (x3 : Int32) : qCt l g mX8_endBehind (d + 2) 0 0 cvI [.ref x0, .int x1, .int x2, .int x3] (FX8_endBehind x0 x1 x2 x3) := s_of pn_X8 (Nat.le_of_ble_eq_true rfl) fun n => FX8_endBehind_ok x0 x1 x2 x3
def UX8_mostShown_52 (R : Nat → Int32 → Int32 → Int32 → qP Int32) (K76 : Nat → Int32 → Int32 → qP Int32) (x0 : Nat) (x1 : Int32) (x2 : Int32) (x3 : Int32) : qP Int32 :=
qb (gR 8 x0 2) fun v1 =>
qb (qcl 8 x0) fun _ => qb (FX8_endBehind x0 x1 x2 x3) fun v2 =>
qb (sI v1 ((x2 * (16 : Int32)) + x3) v2) fun _ =>
R x0 x1 x2 (x3 + (-1))
set_option maxRecDepth 100000 in
set_option maxHeartbeats 4000000 in
theorem UX8_mostShown_52_ok {l : Launch} {g : qG} {d n : Nat} {R : Nat → Int32 → Int32 → Int32 → qP Int32} (hR : ∀ (x0 : Nat) (x1 : Int32) (x2 : Int32) (x3 : Int32), qS l g mX8_mostShown (d + 3) n 0 0 0 0 cvI 26 [(0, .ref x0), (1, .int x1), (2, .int x2), (3, .int x3)] [] (R x0 x1 x2 x3)) {K76 : Nat → Int32 → Int32 → qP Int32} (hK76 : ∀ (x0 : Nat) (x1 : Int32) (x2 : Int32), qS l g mX8_mostShown (d + 3) n 0 0 0 0 cvI 76 [(0, .ref x0), (1, .int x1), (2, .int x2)] [] (K76 x0 x1 x2)) (x0 : Nat) (x1 : Int32) (x2 : Int32) (x3 : Int32) : qS l g mX8_mostShown (d + 3) n 0 0 0 0 cvI 52 [(0, .ref x0), (1, .int x1), (2, .int x2), (3, .int x3)] [] (UX8_mostShown_52 R K76 x0 x1 x2 x3) := by
  unfold UX8_mostShown_52
  refine s_aload_n dX8_mostShown_52 rfl ?_
  refine s_gR dX8_mostShown_53 fX8_18 fun v1 => ?_
  refine s_iload_n dX8_mostShown_56 rfl ?_
  refine s_bipush (v := 16) dX8_mostShown_57 (by decide) ?_
  refine s_imul dX8_mostShown_59 ?_
  refine s_iload_n dX8_mostShown_60 rfl ?_
  refine s_iadd dX8_mostShown_61 ?_
  refine s_aload_n dX8_mostShown_62 rfl ?_
  refine s_iload_n dX8_mostShown_63 rfl ?_
  refine s_iload_n dX8_mostShown_64 rfl ?_
  refine s_iload_n dX8_mostShown_65 rfl ?_
  refine s_virtI (as := [.int x1, .int x2, .int x3]) (rest := [.int ((x2 * (16 : Int32)) + x3), .ref v1]) dX8_mostShown_66 vX8_33 (CX8_endBehind _ _ _ _) (Nat.le_of_ble_eq_true rfl) ⟨Nat.le_refl _, Nat.le_refl _⟩ fun v2 => ?_
  refine s_sI dX8_mostShown_69 ?_
  refine s_iinc (lv' := [(3, .int (x3 + (-1))), (0, .ref x0), (1, .int x1), (2, .int x2)]) dX8_mostShown_70 rfl (by decide) rfl ?_
  refine s_goto (tgt := 26) dX8_mostShown_73 (by decide) ?_
  refine s_locals [1, 2, 3, 0] rfl ?_
  exact hR x0 x1 x2 (x3 + (-1))
def UX8_mostShown_26 (R : Nat → Int32 → Int32 → Int32 → qP Int32) (K76 : Nat → Int32 → Int32 → qP Int32) (x0 : Nat) (x1 : Int32) (x2 : Int32) (x3 : Int32) : qP Int32 :=
if x3 < 0 then (
K76 x0 x1 x2) else (
qb (FJ6_bitCount_0f7a4 x2) fun v1 =>
qb (FJ6_bitCount_0f7a4 x3) fun v2 =>
if (v1 - v2) = 0 then (
UX8_mostShown_52 R K76 x0 x1 x2 x3) else (
if (v1 - v2) = (1 : Int32) then (
UX8_mostShown_52 R K76 x0 x1 x2 x3) else (
R x0 x1 x2 (x3 + (-1)))))
set_option maxRecDepth 100000 in
set_option maxHeartbeats 4000000 in
theorem UX8_mostShown_26_ok {l : Launch} {g : qG} {d n : Nat} {R : Nat → Int32 → Int32 → Int32 → qP Int32} (hR : ∀ (x0 : Nat) (x1 : Int32) (x2 : Int32) (x3 : Int32), qS l g mX8_mostShown (d + 3) n 0 0 0 0 cvI 26 [(0, .ref x0), (1, .int x1), (2, .int x2), (3, .int x3)] [] (R x0 x1 x2 x3)) {K76 : Nat → Int32 → Int32 → qP Int32} (hK76 : ∀ (x0 : Nat) (x1 : Int32) (x2 : Int32), qS l g mX8_mostShown (d + 3) n 0 0 0 0 cvI 76 [(0, .ref x0), (1, .int x1), (2, .int x2)] [] (K76 x0 x1 x2)) (x0 : Nat) (x1 : Int32) (x2 : Int32) (x3 : Int32) : qS l g mX8_mostShown (d + 3) n 0 0 0 0 cvI 26 [(0, .ref x0), (1, .int x1), (2, .int x2), (3, .int x3)] [] (UX8_mostShown_26 R K76 x0 x1 x2 x3) := by
  unfold UX8_mostShown_26
  refine s_iload_n dX8_mostShown_26 rfl ?_
  refine s_if_lt (tgt := 76) dX8_mostShown_27 (by decide) (fun c1 => ?_) (fun c1 => ?_)
  · refine s_locals [0, 1, 2] rfl ?_
    exact hK76 x0 x1 x2
  · refine s_iload_n dX8_mostShown_30 rfl ?_
    refine s_staticI (as := [.int x2]) (rest := []) dX8_mostShown_31 sX8_27 (CJ6_bitCount_0f7a4 _) (Nat.le_of_ble_eq_true rfl) ⟨Nat.le_refl _, Nat.le_refl _⟩ fun v1 => ?_
    refine s_iload_n dX8_mostShown_34 rfl ?_
    refine s_staticI (as := [.int x3]) (rest := [.int v1]) dX8_mostShown_35 sX8_27 (CJ6_bitCount_0f7a4 _) (Nat.le_of_ble_eq_true rfl) ⟨Nat.le_refl _, Nat.le_refl _⟩ fun v2 => ?_
    refine s_isub dX8_mostShown_38 ?_
    refine s_istore (lv' := [(4, .int (v1 - v2)), (0, .ref x0), (1, .int x1), (2, .int x2), (3, .int x3)]) dX8_mostShown_39 (by decide) rfl ?_
    refine s_iload dX8_mostShown_41 rfl ?_
    refine s_if_eq (tgt := 52) dX8_mostShown_43 (by decide) (fun c2 => ?_) (fun c2 => ?_)
    · refine s_locals [1, 2, 3, 4] rfl ?_
      exact UX8_mostShown_52_ok hR hK76 x0 x1 x2 x3
    · refine s_iload dX8_mostShown_46 rfl ?_
      refine s_iconst (v := 1) dX8_mostShown_48 (by decide) ?_
      refine s_icmp_ne (tgt := 70) dX8_mostShown_49 (by decide) (fun c3 => ?_) (fun c3 => ?_)
      · refine s_locals [1, 2, 3, 4] rfl ?_
        exact UX8_mostShown_52_ok hR hK76 x0 x1 x2 x3
      · refine s_iinc (lv' := [(3, .int (x3 + (-1))), (4, .int (v1 - v2)), (0, .ref x0), (1, .int x1), (2, .int x2)]) dX8_mostShown_70 rfl (by decide) rfl ?_
        refine s_goto (tgt := 26) dX8_mostShown_73 (by decide) ?_
        refine s_locals [2, 3, 4, 0] rfl ?_
        exact hR x0 x1 x2 (x3 + (-1))
def WX8_mostShown_26 (K76 : Nat → Int32 → Int32 → qP Int32) : Nat → Nat → Int32 → Int32 → Int32 → qP Int32
  | 0 => fun _ _ _ _ => qfail
  | N + 1 => fun x0 x1 x2 x3 => UX8_mostShown_26 (WX8_mostShown_26 K76 N) K76 x0 x1 x2 x3
theorem WX8_mostShown_26_ok {l : Launch} {g : qG} {d n : Nat} {K76 : Nat → Int32 → Int32 → qP Int32} (hK76 : ∀ (x0 : Nat) (x1 : Int32) (x2 : Int32), qS l g mX8_mostShown (d + 3) n 0 0 0 0 cvI 76 [(0, .ref x0), (1, .int x1), (2, .int x2)] [] (K76 x0 x1 x2)) : ∀ (N : Nat) (x0 : Nat) (x1 : Int32) (x2 : Int32) (x3 : Int32), qS l g mX8_mostShown (d + 3) n 0 0 0 0 cvI 26 [(0, .ref x0), (1, .int x1), (2, .int x2), (3, .int x3)] [] (WX8_mostShown_26 K76 N x0 x1 x2 x3) := by
  intro N
  induction N with
  | zero => intro x0 x1 x2 x3; exact s_fail
  | succ N ih => intro x0 x1 x2 x3; exact UX8_mostShown_26_ok ih hK76 x0 x1 x2 x3
def UX8_mostShown_76 (R : Nat → Int32 → Int32 → qP Int32) (x0 : Nat) (x1 : Int32) (x2 : Int32) : qP Int32 :=
R x0 x1 (x2 + (-1))
set_option maxRecDepth 100000 in
set_option maxHeartbeats 4000000 in
theorem UX8_mostShown_76_ok {l : Launch} {g : qG} {d n : Nat} {R : Nat → Int32 → Int32 → qP Int32} (hR : ∀ (x0 : Nat) (x1 : Int32) (x2 : Int32), qS l g mX8_mostShown (d + 3) n 0 0 0 0 cvI 11 [(0, .ref x0), (1, .int x1), (2, .int x2)] [] (R x0 x1 x2)) (x0 : Nat) (x1 : Int32) (x2 : Int32) : qS l g mX8_mostShown (d + 3) n 0 0 0 0 cvI 76 [(0, .ref x0), (1, .int x1), (2, .int x2)] [] (UX8_mostShown_76 R x0 x1 x2) := by
  unfold UX8_mostShown_76
  refine s_iinc (lv' := [(2, .int (x2 + (-1))), (0, .ref x0), (1, .int x1)]) dX8_mostShown_76 rfl (by decide) rfl ?_
  refine s_goto (tgt := 11) dX8_mostShown_79 (by decide) ?_
  refine s_locals [1, 2, 0] rfl ?_
  exact hR x0 x1 (x2 + (-1))
def UX8_mostShown_11 (R : Nat → Int32 → Int32 → qP Int32) (x0 : Nat) (x1 : Int32) (x2 : Int32) : qP Int32 :=
if x2 < 0 then (
qb (gR 8 x0 2) fun v1 =>
qb (aI v1 (0 : Int32)) fun v2 =>
qr v2) else (
qb (gR 8 x0 1) fun v3 =>
qb (aI v3 (1 : Int32)) fun v4 =>
WX8_mostShown_26 (UX8_mostShown_76 R) 1000000 x0 x1 x2 (((1 : Int32) <<< (v4 &&& 31)) - (1 : Int32)))
set_option maxRecDepth 100000 in
set_option maxHeartbeats 4000000 in
theorem UX8_mostShown_11_ok {l : Launch} {g : qG} {d n : Nat} {R : Nat → Int32 → Int32 → qP Int32} (hR : ∀ (x0 : Nat) (x1 : Int32) (x2 : Int32), qS l g mX8_mostShown (d + 3) n 0 0 0 0 cvI 11 [(0, .ref x0), (1, .int x1), (2, .int x2)] [] (R x0 x1 x2)) (x0 : Nat) (x1 : Int32) (x2 : Int32) : qS l g mX8_mostShown (d + 3) n 0 0 0 0 cvI 11 [(0, .ref x0), (1, .int x1), (2, .int x2)] [] (UX8_mostShown_11 R x0 x1 x2) := by
  unfold UX8_mostShown_11
  refine s_iload_n dX8_mostShown_11 rfl ?_
  refine s_if_lt (tgt := 82) dX8_mostShown_12 (by decide) (fun c1 => ?_) (fun c1 => ?_)
  · refine s_aload_n dX8_mostShown_82 rfl ?_
    refine s_gR dX8_mostShown_83 fX8_18 fun v1 => ?_
    refine s_iconst (v := 0) dX8_mostShown_86 (by decide) ?_
    refine s_aI dX8_mostShown_87 fun v2 => ?_
    exact s_ireturn dX8_mostShown_88 rfl rfl
  · refine s_iconst (v := 1) dX8_mostShown_15 (by decide) ?_
    refine s_aload_n dX8_mostShown_16 rfl ?_
    refine s_gR dX8_mostShown_17 fX8_15 fun v3 => ?_
    refine s_iconst (v := 1) dX8_mostShown_20 (by decide) ?_
    refine s_aI dX8_mostShown_21 fun v4 => ?_
    refine s_ishl dX8_mostShown_22 ?_
    refine s_iconst (v := 1) dX8_mostShown_23 (by decide) ?_
    refine s_isub dX8_mostShown_24 ?_
    refine s_istore_n (lv' := [(3, .int (((1 : Int32) <<< (v4 &&& 31)) - (1 : Int32))), (0, .ref x0), (1, .int x1), (2, .int x2)]) dX8_mostShown_25 (by decide) rfl ?_
    refine s_locals [1, 2, 3, 0] rfl ?_
    exact WX8_mostShown_26_ok (UX8_mostShown_76_ok hR) 1000000 x0 x1 x2 (((1 : Int32) <<< (v4 &&& 31)) - (1 : Int32))
def WX8_mostShown_11 : Nat → Nat → Int32 → Int32 → qP Int32
  | 0 => fun _ _ _ => qfail
  | N + 1 => fun x0 x1 x2 => UX8_mostShown_11 (WX8_mostShown_11  N)  x0 x1 x2
theorem WX8_mostShown_11_ok {l : Launch} {g : qG} {d n : Nat} : ∀ (N : Nat) (x0 : Nat) (x1 : Int32) (x2 : Int32), qS l g mX8_mostShown (d + 3) n 0 0 0 0 cvI 11 [(0, .ref x0), (1, .int x1), (2, .int x2)] [] (WX8_mostShown_11  N x0 x1 x2) := by
  intro N
  induction N with
  | zero => intro x0 x1 x2; exact s_fail
  | succ N ih => intro x0 x1 x2; exact UX8_mostShown_11_ok ih  x0 x1 x2
def FX8_mostShown (x0 : Nat) (x1 : Int32) : qP Int32 :=
qb (gR 8 x0 1) fun v1 =>
qb (aI v1 (0 : Int32)) fun v2 =>
WX8_mostShown_11 1000000 x0 x1 (((1 : Int32) <<< (v2 &&& 31)) - (1 : Int32))
set_option maxRecDepth 100000 in
set_option maxHeartbeats 4000000 in
theorem FX8_mostShown_ok {l : Launch} {g : qG} {d n : Nat} (x0 : Nat) (x1 : Int32) : qS l g mX8_mostShown (d + 3) n 0 0 0 0 cvI 0 [(0, .ref x0), (1, .int x1)] [] (FX8_mostShown x0 x1) := by
  unfold FX8_mostShown
  refine s_iconst (v := 1) dX8_mostShown_0 (by decide) ?_
  refine s_aload_n dX8_mostShown_1 rfl ?_
  refine s_gR dX8_mostShown_2 fX8_15 fun v1 => ?_
  refine s_iconst (v := 0) dX8_mostShown_5 (by decide) ?_
  refine s_aI dX8_mostShown_6 fun v2 => ?_
  refine s_ishl dX8_mostShown_7 ?_
  refine s_iconst (v := 1) dX8_mostShown_8 (by decide) ?_
  refine s_isub dX8_mostShown_9 ?_
  refine s_istore_n (lv' := [(2, .int (((1 : Int32) <<< (v2 &&& 31)) - (1 : Int32))), (0, .ref x0), (1, .int x1)]) dX8_mostShown_10 (by decide) rfl ?_
  refine s_locals [1, 2, 0] rfl ?_
  exact WX8_mostShown_11_ok  1000000 x0 x1 (((1 : Int32) <<< (v2 &&& 31)) - (1 : Int32))
theorem CX8_mostShown {l : Launch} {g : qG} {d : Nat} (x0 : Nat) (x1 : Int32) : qCt l g mX8_mostShown (d + 3) 0 0 cvI [.ref x0, .int x1] (FX8_mostShown x0 x1) := s_of pn_X8 (Nat.le_of_ble_eq_true rfl) fun n => FX8_mostShown_ok x0 x1
def UX8_firstCharge_2 (R : Nat → Int32 → qP Int32) (x0 : Nat) (x1 : Int32) : qP Int32 :=
qb (gR 8 x0 1) fun v1 =>
qb (aI v1 (0 : Int32)) fun v2 =>
if v2 ≤ x1 then (
qr (-1 : Int32)) else (
qb (gR 8 x0 2) fun v3 =>
qb (aI v3 (((1 : Int32) <<< (x1 &&& 31)) * (16 : Int32))) fun v4 =>
qb (gR 8 x0 2) fun v5 =>
qb (aI v5 (0 : Int32)) fun v6 =>
if v4 = v6 then (
qr x1) else (
R x0 (x1 + 1)))
set_option maxRecDepth 100000 in
set_option maxHeartbeats 4000000 in
theorem UX8_firstCharge_2_ok {l : Launch} {g : qG} {d n : Nat} {R : Nat → Int32 → qP Int32} (hR : ∀ (x0 : Nat) (x1 : Int32), qS l g mX8_firstCharge d n 0 0 0 0 cvI 2 [(0, .ref x0), (1, .int x1)] [] (R x0 x1)) (x0 : Nat) (x1 : Int32) : qS l g mX8_firstCharge d n 0 0 0 0 cvI 2 [(0, .ref x0), (1, .int x1)] [] (UX8_firstCharge_2 R x0 x1) := by
  unfold UX8_firstCharge_2
  refine s_iload_n dX8_firstCharge_2 rfl ?_
  refine s_aload_n dX8_firstCharge_3 rfl ?_
  refine s_gR dX8_firstCharge_4 fX8_15 fun v1 => ?_
  refine s_iconst (v := 0) dX8_firstCharge_7 (by decide) ?_
  refine s_aI dX8_firstCharge_8 fun v2 => ?_
  refine s_icmp_ge (tgt := 40) dX8_firstCharge_9 (by decide) (fun c1 => ?_) (fun c1 => ?_)
  · refine s_iconst (v := -1) dX8_firstCharge_40 (by decide) ?_
    exact s_ireturn dX8_firstCharge_41 rfl rfl
  · refine s_aload_n dX8_firstCharge_12 rfl ?_
    refine s_gR dX8_firstCharge_13 fX8_18 fun v3 => ?_
    refine s_iconst (v := 1) dX8_firstCharge_16 (by decide) ?_
    refine s_iload_n dX8_firstCharge_17 rfl ?_
    refine s_ishl dX8_firstCharge_18 ?_
    refine s_bipush (v := 16) dX8_firstCharge_19 (by decide) ?_
    refine s_imul dX8_firstCharge_21 ?_
    refine s_aI dX8_firstCharge_22 fun v4 => ?_
    refine s_aload_n dX8_firstCharge_23 rfl ?_
    refine s_gR dX8_firstCharge_24 fX8_18 fun v5 => ?_
    refine s_iconst (v := 0) dX8_firstCharge_27 (by decide) ?_
    refine s_aI dX8_firstCharge_28 fun v6 => ?_
    refine s_icmp_ne (tgt := 34) dX8_firstCharge_29 (by decide) (fun c2 => ?_) (fun c2 => ?_)
    · refine s_iload_n dX8_firstCharge_32 rfl ?_
      exact s_ireturn dX8_firstCharge_33 rfl rfl
    · refine s_iinc (lv' := [(1, .int (x1 + 1)), (0, .ref x0)]) dX8_firstCharge_34 rfl (by decide) rfl ?_
      refine s_goto (tgt := 2) dX8_firstCharge_37 (by decide) ?_
      refine s_locals [1, 0] rfl ?_
      exact hR x0 (x1 + 1)
def WX8_firstCharge_2 : Nat → Nat → Int32 → qP Int32
  | 0 => fun _ _ => qfail
  | N + 1 => fun x0 x1 => UX8_firstCharge_2 (WX8_firstCharge_2  N)  x0 x1
theorem WX8_firstCharge_2_ok {l : Launch} {g : qG} {d n : Nat} : ∀ (N : Nat) (x0 : Nat) (x1 : Int32), qS l g mX8_firstCharge d n 0 0 0 0 cvI 2 [(0, .ref x0), (1, .int x1)] [] (WX8_firstCharge_2  N x0 x1) := by
  intro N
  induction N with
  | zero => intro x0 x1; exact s_fail
  | succ N ih => intro x0 x1; exact UX8_firstCharge_2_ok ih  x0 x1
def FX8_firstCharge (x0 : Nat) : qP Int32 :=
WX8_firstCharge_2 1000000 x0 (0 : Int32)
set_option maxRecDepth 100000 in
set_option maxHeartbeats 4000000 in
theorem FX8_firstCharge_ok {l : Launch} {g : qG} {d n : Nat} (x0 : Nat) : qS l g mX8_firstCharge d n 0 0 0 0 cvI 0 [(0, .ref x0)] [] (FX8_firstCharge x0) := by
  unfold FX8_firstCharge
  refine s_iconst (v := 0) dX8_firstCharge_0 (by decide) ?_
  refine s_istore_n (lv' := [(1, .int (0 : Int32)), (0, .ref x0)]) dX8_firstCharge_1 (by decide) rfl ?_
  refine s_locals [1, 0] rfl ?_
  exact WX8_firstCharge_2_ok  1000000 x0 (0 : Int32)
theorem CX8_firstCharge {l : Launch} {g : qG} {d : Nat} (x0 : Nat) : qCt l g mX8_firstCharge d 0 0 cvI [.ref x0] (FX8_firstCharge x0) := s_of pn_X8 (Nat.le_of_ble_eq_true rfl) fun n => FX8_firstCharge_ok x0

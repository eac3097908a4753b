def UX3_addBytes_34 (R : Nat → Int64 → Int32 → qP Int32) (x0 : Nat) (x1 : Int64) (x4 : Int32) : qP Int32 :=
if x4 < 0 then (
qb (gI 3 x0 1) fun v1 =>
qr v1) else (
qb (gR 3 x0 0) fun v2 =>
qb (gI 3 x0 1) fun v3 =>
qb (sI v2 v3 (((x1 >>> (((8 : Int32) * x4).toInt64 &&& 63)) &&& (255 : Int64))).toInt32) fun _ =>
qb (gI 3 x0 1) fun v4 =>
qb (pV 3 x0 1 (.int (v4 + (1 : Int32)))) fun _ =>
R x0 x1 (x4 + (-1)))
set_option maxRecDepth 100000 in
set_option maxHeartbeats 4000000 in
theorem UX3_addBytes_34_ok {l : Launch} {g : qG} {d n : Nat} {R : Nat → Int64 → Int32 → qP Int32} (hR : ∀ (x0 : Nat) (x1 : Int64) (x4 : Int32), qS l g mX3_addBytes d n 0 0 0 0 cvI 34 [(0, .ref x0), (1, .long x1), (4, .int x4)] [] (R x0 x1 x4)) (x0 : Nat) (x1 : Int64) (x4 : Int32) : qS l g mX3_addBytes d n 0 0 0 0 cvI 34 [(0, .ref x0), (1, .long x1), (4, .int x4)] [] (UX3_addBytes_34 R x0 x1 x4) := by
  unfold UX3_addBytes_34
  refine s_iload dX3_addBytes_34 rfl ?_
  refine s_if_lt (tgt := 76) dX3_addBytes_36 (by decide) (fun c1 => ?_) (fun c1 => ?_)
  · refine s_aload_n dX3_addBytes_76 rfl ?_
    refine s_gI dX3_addBytes_77 fX3_15 fun v1 => ?_
    exact s_ireturn dX3_addBytes_80 rfl rfl
  · refine s_aload_n dX3_addBytes_39 rfl ?_
    refine s_gR dX3_addBytes_40 fX3_11 fun v2 => ?_
    refine s_aload_n dX3_addBytes_43 rfl ?_
    refine s_gI dX3_addBytes_44 fX3_15 fun v3 => ?_
    refine s_lload_n dX3_addBytes_47 rfl ?_
    refine s_bipush (v := 8) dX3_addBytes_48 (by decide) ?_
    refine s_iload dX3_addBytes_50 rfl ?_
    refine s_imul dX3_addBytes_52 ?_
    refine s_lshr dX3_addBytes_53 ?_
    refine s_ldc2 dX3_addBytes_54 lX3_49 ?_
    refine s_land dX3_addBytes_57 ?_
    refine s_l2i dX3_addBytes_58 ?_
    refine s_sI dX3_addBytes_59 ?_
    refine s_aload_n dX3_addBytes_60 rfl ?_
    refine s_dup dX3_addBytes_61 rfl ?_
    refine s_gI dX3_addBytes_62 fX3_15 fun v4 => ?_
    refine s_iconst (v := 1) dX3_addBytes_65 (by decide) ?_
    refine s_iadd dX3_addBytes_66 ?_
    refine s_put dX3_addBytes_67 fX3_15 rfl rfl ?_
    refine s_iinc (lv' := [(4, .int (x4 + (-1))), (0, .ref x0), (1, .long x1)]) dX3_addBytes_70 rfl (by decide) rfl ?_
    refine s_goto (tgt := 34) dX3_addBytes_73 (by decide) ?_
    refine s_locals [1, 2, 0] rfl ?_
    exact hR x0 x1 (x4 + (-1))
def WX3_addBytes_34 : Nat → Nat → Int64 → Int32 → qP Int32
  | 0 => fun _ _ _ => qfail
  | N + 1 => fun x0 x1 x4 => UX3_addBytes_34 (WX3_addBytes_34  N)  x0 x1 x4
theorem WX3_addBytes_34_ok {l : Launch} {g : qG} {d n : Nat} : ∀ (N : Nat) (x0 : Nat) (x1 : Int64) (x4 : Int32), qS l g mX3_addBytes d n 0 0 0 0 cvI 34 [(0, .ref x0), (1, .long x1), (4, .int x4)] [] (WX3_addBytes_34  N x0 x1 x4) := by
  intro N
  induction N with
  | zero => intro x0 x1 x4; exact s_fail
  | succ N ih => intro x0 x1 x4; exact UX3_addBytes_34_ok ih  x0 x1 x4
def FX3_addBytes (x0 : Nat) (x1 : Int64) (x3 : Int32) : qP Int32 :=
if x3 < (1 : Int32) then (
qr (-2 : Int32)) else (
if x3 ≤ (8 : Int32) then (
qb (gI 3 x0 1) fun v1 =>
if (v1 + x3) ≤ (200 : Int32) then (
WX3_addBytes_34 1000000 x0 x1 (x3 - (1 : Int32))) else (
qr (-4 : Int32))) else (
qr (-2 : Int32)))
set_option maxRecDepth 100000 in
set_option maxHeartbeats 4000000 in
theorem FX3_addBytes_ok {l : Launch} {g : qG} {d n : Nat} (x0 : Nat) (x1 : Int64) (x3 : Int32) : qS l g mX3_addBytes d n 0 0 0 0 cvI 0 [(0, .ref x0), (1, .long x1), (3, .int x3)] [] (FX3_addBytes x0 x1 x3) := by
  unfold FX3_addBytes
  refine s_iload_n dX3_addBytes_0 rfl ?_
  refine s_iconst (v := 1) dX3_addBytes_1 (by decide) ?_
  refine s_icmp_lt (tgt := 11) dX3_addBytes_2 (by decide) (fun c1 => ?_) (fun c1 => ?_)
  · refine s_bipush (v := -2) dX3_addBytes_11 (by decide) ?_
    exact s_ireturn dX3_addBytes_13 rfl rfl
  · refine s_iload_n dX3_addBytes_5 rfl ?_
    refine s_bipush (v := 8) dX3_addBytes_6 (by decide) ?_
    refine s_icmp_le (tgt := 14) dX3_addBytes_8 (by decide) (fun c2 => ?_) (fun c2 => ?_)
    · refine s_aload_n dX3_addBytes_14 rfl ?_
      refine s_gI dX3_addBytes_15 fX3_15 fun v1 => ?_
      refine s_iload_n dX3_addBytes_18 rfl ?_
      refine s_iadd dX3_addBytes_19 ?_
      refine s_sipush (v := 200) dX3_addBytes_20 (by decide) ?_
      refine s_icmp_le (tgt := 29) dX3_addBytes_23 (by decide) (fun c3 => ?_) (fun c3 => ?_)
      · refine s_iload_n dX3_addBytes_29 rfl ?_
        refine s_iconst (v := 1) dX3_addBytes_30 (by decide) ?_
        refine s_isub dX3_addBytes_31 ?_
        refine s_istore (lv' := [(4, .int (x3 - (1 : Int32))), (0, .ref x0), (1, .long x1), (3, .int x3)]) dX3_addBytes_32 (by decide) rfl ?_
        refine s_locals [1, 2, 0] rfl ?_
        exact WX3_addBytes_34_ok  1000000 x0 x1 (x3 - (1 : Int32))
      · refine s_bipush (v := -4) dX3_addBytes_26 (by decide) ?_
        exact s_ireturn dX3_addBytes_28 rfl rfl
    · refine s_bipush (v := -2) dX3_addBytes_11 (by decide) ?_
      exact s_ireturn dX3_addBytes_13 rfl rfl
theorem CX3_addBytes {l : Launch} {g : qG} {d : Nat} (x0 : Nat) (x1 : Int64) (x3 : Int32) : qCt l g mX3_addBytes d 0 0 cvI [.ref x0, .long x1, .int x3] (FX3_addBytes x0 x1 x3) := s_of pn_X3 (Nat.le_of_ble_eq_true rfl) fun n => FX3_addBytes_ok x0 x1 x3
def FX3_forget (x0 : Nat) : qP Int32 :=
qb (gI 3 x0 1) fun v1 =>
qb (pV 3 x0 1 (.int (0 : Int32))) fun _ =>
qr v1
set_option maxRecDepth 100000 in
set_option maxHeartbeats 4000000 in
theorem FX3_forget_ok {l : Launch} {g : qG} {d n : Nat} (x0 : Nat) : qS l g mX3_forget d n 0 0 0 0 cvI 0 [(0, .ref x0)] [] (FX3_forget x0) := by
  unfold FX3_forget
  refine s_aload_n dX3_forget_0 rfl ?_
  refine s_gI dX3_forget_1 fX3_15 fun v1 => ?_
  refine s_istore_n (lv' := [(1, .int v1), (0, .ref x0)]) dX3_forget_4 (by decide) rfl ?_
  refine s_aload_n dX3_forget_5 rfl ?_
  refine s_iconst (v := 0) dX3_forget_6 (by decide) ?_
  refine s_put dX3_forget_7 fX3_15 rfl rfl ?_
  refine s_iload_n dX3_forget_10 rfl ?_
  exact s_ireturn dX3_forget_11 rfl rfl
theorem CX3_forget {l : Launch} {g : qG} {d : Nat} (x0 : Nat) : qCt l g mX3_forget d 0 0 cvI [.ref x0] (FX3_forget x0) := s_of pn_X3 (Nat.le_of_ble_eq_true rfl) fun n => FX3_forget_ok x0
def FX3_items (x0 : Nat) : qP Int32 :=
qb (gI 3 x0 11) fun v1 =>
qr v1
set_option maxRecDepth 100000 in
set_option maxHeartbeats 4000000 in
theorem FX3_items_ok {l : Launch} {g : qG} {d n : Nat} (x0 : Nat) : qS l g mX3_items d n 0 0 0 0 cvI 0 [(0, .ref x0)] [] (FX3_items x0) := by
  unfold FX3_items
  refine s_aload_n dX3_items_0 rfl ?_
  refine s_gI dX3_items_1 fX3_46 fun v1 => ?_
  exact s_ireturn dX3_items_4 rfl rfl
theorem CX3_items {l : Launch} {g : qG} {d : Nat} (x0 : Nat) : qCt l g mX3_items d 0 0 cvI [.ref x0] (FX3_items x0) := s_of pn_X3 (Nat.le_of_ble_eq_true rfl) fun n => FX3_items_ok x0
def UX3_signOf_17 (x0 : Int32) : qP Int32 :=
if x0 = (46 : Int32) then (
qr (26 : Int32)) else (
if x0 = (43 : Int32) then (
qr (27 : Int32)) else (
qr (-1 : Int32)))
set_option maxRecDepth 100000 in
set_option maxHeartbeats 4000000 in
theorem UX3_signOf_17_ok {l : Launch} {g : qG} {d n : Nat} (x0 : Int32) : qS l g mX3_signOf d n 0 0 0 0 cvI 17 [(0, .int x0)] [] (UX3_signOf_17 x0) := by
  unfold UX3_signOf_17
  refine s_iload_n dX3_signOf_17 rfl ?_
  refine s_bipush (v := 46) dX3_signOf_18 (by decide) ?_
  refine s_icmp_ne (tgt := 28) dX3_signOf_20 (by decide) (fun c1 => ?_) (fun c1 => ?_)
  · refine s_bipush (v := 26) dX3_signOf_23 (by decide) ?_
    refine s_goto (tgt := 40) dX3_signOf_25 (by decide) ?_
    exact s_ireturn dX3_signOf_40 rfl rfl
  · refine s_iload_n dX3_signOf_28 rfl ?_
    refine s_bipush (v := 43) dX3_signOf_29 (by decide) ?_
    refine s_icmp_ne (tgt := 39) dX3_signOf_31 (by decide) (fun c2 => ?_) (fun c2 => ?_)
    · refine s_bipush (v := 27) dX3_signOf_34 (by decide) ?_
      refine s_goto (tgt := 40) dX3_signOf_36 (by decide) ?_
      exact s_ireturn dX3_signOf_40 rfl rfl
    · refine s_iconst (v := -1) dX3_signOf_39 (by decide) ?_
      exact s_ireturn dX3_signOf_40 rfl rfl
def FX3_signOf (x0 : Int32) : qP Int32 :=
if x0 < (97 : Int32) then (
UX3_signOf_17 x0) else (
if (122 : Int32) < x0 then (
UX3_signOf_17 x0) else (
qr (x0 - (97 : Int32))))
set_option maxRecDepth 100000 in
set_option maxHeartbeats 4000000 in
theorem FX3_signOf_ok {l : Launch} {g : qG} {d n : Nat} (x0 : Int32) : qS l g mX3_signOf d n 0 0 0 0 cvI 0 [(0, .int x0)] [] (FX3_signOf x0) := by
  unfold FX3_signOf
  refine s_iload_n dX3_signOf_0 rfl ?_
  refine s_bipush (v := 97) dX3_signOf_1 (by decide) ?_
  refine s_icmp_lt (tgt := 17) dX3_signOf_3 (by decide) (fun c1 => ?_) (fun c1 => ?_)
  · exact UX3_signOf_17_ok x0
  · refine s_iload_n dX3_signOf_6 rfl ?_
    refine s_bipush (v := 122) dX3_signOf_7 (by decide) ?_
    refine s_icmp_gt (tgt := 17) dX3_signOf_9 (by decide) (fun c2 => ?_) (fun c2 => ?_)
    · exact UX3_signOf_17_ok x0
    · refine s_iload_n dX3_signOf_12 rfl ?_
      refine s_bipush (v := 97) dX3_signOf_13 (by decide) ?_
      refine s_isub dX3_signOf_15 ?_
      exact s_ireturn dX3_signOf_16 rfl rfl
theorem CX3_signOf {l : Launch} {g : qG} {d : Nat} (x0 : Int32) : qCt l g mX3_signOf d 0 0 cvI [.int x0] (FX3_signOf x0) := s_of pn_X3 (Nat.le_of_ble_eq_true rfl) fun n => FX3_signOf_ok x0
def UX3_takeWord_5 (R : Nat → qP Unit) (x0 : Nat) : qP Unit :=
qb (gI 3 x0 2) fun v1 =>
qb (gI 3 x0 1) fun v2 =>
if v2 ≤ v1 then (
qr ()) else (
qb (gR 3 x0 0) fun v3 =>
qb (gI 3 x0 2) fun v4 =>
qb (aI v3 v4) fun v5 =>
qb (FX3_signOf v5) fun v6 =>
if v6 = (-1 : Int32) then (
qr ()) else (
qb (gI 3 x0 2) fun v7 =>
qb (pV 3 x0 2 (.int (v7 + (1 : Int32)))) fun _ =>
R x0))
set_option maxRecDepth 100000 in
set_option maxHeartbeats 4000000 in
theorem UX3_takeWord_5_ok {l : Launch} {g : qG} {d n : Nat} {R : Nat → qP Unit} (hR : ∀ (x0 : Nat), qS l g mX3_takeWord (d + 1) n 0 0 0 0 cvV 5 [(0, .ref x0)] [] (R x0)) (x0 : Nat) : qS l g mX3_takeWord (d + 1) n 0 0 0 0 cvV 5 [(0, .ref x0)] [] (UX3_takeWord_5 R x0) := by
  unfold UX3_takeWord_5
  refine s_aload_n dX3_takeWord_5 rfl ?_
  refine s_gI dX3_takeWord_6 fX3_19 fun v1 => ?_
  refine s_aload_n dX3_takeWord_9 rfl ?_
  refine s_gI dX3_takeWord_10 fX3_15 fun v2 => ?_
  refine s_icmp_ge (tgt := 45) dX3_takeWord_13 (by decide) (fun c1 => ?_) (fun c1 => ?_)
  · exact s_return dX3_takeWord_45 rfl
  · refine s_aload_n dX3_takeWord_16 rfl ?_
    refine s_gR dX3_takeWord_17 fX3_11 fun v3 => ?_
    refine s_aload_n dX3_takeWord_20 rfl ?_
    refine s_gI dX3_takeWord_21 fX3_19 fun v4 => ?_
    refine s_aI dX3_takeWord_24 fun v5 => ?_
    refine s_staticI (as := [.int v5]) (rest := []) dX3_takeWord_25 sX3_89 (CX3_signOf _) (Nat.le_of_ble_eq_true rfl) ⟨Nat.le_refl _, Nat.le_refl _⟩ fun v6 => ?_
    refine s_iconst (v := -1) dX3_takeWord_28 (by decide) ?_
    refine s_icmp_eq (tgt := 45) dX3_takeWord_29 (by decide) (fun c2 => ?_) (fun c2 => ?_)
    · exact s_return dX3_takeWord_45 rfl
    · refine s_aload_n dX3_takeWord_32 rfl ?_
      refine s_dup dX3_takeWord_33 rfl ?_
      refine s_gI dX3_takeWord_34 fX3_19 fun v7 => ?_
      refine s_iconst (v := 1) dX3_takeWord_37 (by decide) ?_
      refine s_iadd dX3_takeWord_38 ?_
      refine s_put dX3_takeWord_39 fX3_19 rfl rfl ?_
      refine s_goto (tgt := 5) dX3_takeWord_42 (by decide) ?_
      exact hR x0
def WX3_takeWord_5 : Nat → Nat → qP Unit
  | 0 => fun _ => qfail
  | N + 1 => fun x0 => UX3_takeWord_5 (WX3_takeWord_5  N)  x0
theorem WX3_takeWord_5_ok {l : Launch} {g : qG} {d n : Nat} : ∀ (N : Nat) (x0 : Nat), qS l g mX3_takeWord (d + 1) n 0 0 0 0 cvV 5 [(0, .ref x0)] [] (WX3_takeWord_5  N x0) := by
  intro N
  induction N with
  | zero => intro x0; exact s_fail
  | succ N ih => intro x0; exact UX3_takeWord_5_ok ih  x0
def FX3_takeWord (x0 : Nat) : qP Unit :=
qb (pV 3 x0 4 (.int (1 : Int32))) fun _ =>
WX3_takeWord_5 1000000 x0
set_option maxRecDepth 100000 in
set_option maxHeartbeats 4000000 in
theorem FX3_takeWord_ok {l : Launch} {g : qG} {d n : Nat} (x0 : Nat) : qS l g mX3_takeWord (d + 1) n 0 0 0 0 cvV 0 [(0, .ref x0)] [] (FX3_takeWord x0) := by
  unfold FX3_takeWord
  refine s_aload_n dX3_takeWord_0 rfl ?_
  refine s_iconst (v := 1) dX3_takeWord_1 (by decide) ?_
  refine s_put dX3_takeWord_2 fX3_25 rfl rfl ?_
  exact WX3_takeWord_5_ok  1000000 x0
theorem CX3_takeWord {l : Launch} {g : qG} {d : Nat} (x0 : Nat) : qCt l g mX3_takeWord (d + 1) 0 0 cvV [.ref x0] (FX3_takeWord x0) := s_of pn_X3 (Nat.le_of_ble_eq_true rfl) fun n => FX3_takeWord_ok x0
def FX3_isFigure (x0 : Int32) : qP Int32 :=
if x0 < (48 : Int32) then (
qr (0 : Int32)) else (
if (57 : Int32) < x0 then (
qr (0 : Int32)) else (
qr (1 : Int32)))
set_option maxRecDepth 100000 in
set_option maxHeartbeats 4000000 in
theorem FX3_isFigure_ok {l : Launch} {g : qG} {d n : Nat} (x0 : Int32) : qS l g mX3_isFigure d n 0 0 0 0 cvI 0 [(0, .int x0)] [] (FX3_isFigure x0) := by
  unfold FX3_isFigure
  refine s_iload_n dX3_isFigure_0 rfl ?_
  refine s_bipush (v := 48) dX3_isFigure_1 (by decide) ?_
  refine s_icmp_lt (tgt := 16) dX3_isFigure_3 (by decide) (fun c1 => ?_) (fun c1 => ?_)
  · refine s_iconst (v := 0) dX3_isFigure_16 (by decide) ?_
    exact s_ireturn dX3_isFigure_17 rfl (by decide)
  · refine s_iload_n dX3_isFigure_6 rfl ?_
    refine s_bipush (v := 57) dX3_isFigure_7 (by decide) ?_
    refine s_icmp_gt (tgt := 16) dX3_isFigure_9 (by decide) (fun c2 => ?_) (fun c2 => ?_)
    · refine s_iconst (v := 0) dX3_isFigure_16 (by decide) ?_
      exact s_ireturn dX3_isFigure_17 rfl (by decide)
    · refine s_iconst (v := 1) dX3_isFigure_12 (by decide) ?_
      refine s_goto (tgt := 17) dX3_isFigure_13 (by decide) ?_
      exact s_ireturn dX3_isFigure_17 rfl (by decide)
theorem CX3_isFigure {l : Launch} {g : qG} {d : Nat} (x0 : Int32) : qCt l g mX3_isFigure d 0 0 cvI [.int x0] (FX3_isFigure x0) := s_of pn_X3 (Nat.le_of_ble_eq_true rfl) fun n => FX3_isFigure_ok x0
def UX3_takeNumber_5 (R : Nat → qP Unit) (K68 : Nat → qP Unit) (x0 : Nat) : qP Unit :=
qb (gI 3 x0 2) fun v1 =>
qb (gI 3 x0 1) fun v2 =>
if v2 ≤ v1 then (
K68 x0) else (
qb (gR 3 x0 0) fun v3 =>
qb (gI 3 x0 2) fun v4 =>
qb (aI v3 v4) fun v5 =>
qb (FX3_isFigure v5) fun v6 =>
if v6 = 0 then (
K68 x0) else (
qb (gI 3 x0 5) fun v7 =>
qb (gR 3 x0 0) fun v8 =>
qb (gI 3 x0 2) fun v9 =>
qb (aI v8 v9) fun v10 =>
qb (pV 3 x0 5 (.int (((v7 * (10 : Int32)) + v10) - (48 : Int32)))) fun _ =>
qb (gI 3 x0 2) fun v11 =>
qb (pV 3 x0 2 (.int (v11 + (1 : Int32)))) fun _ =>
R x0))
set_option maxRecDepth 100000 in
set_option maxHeartbeats 4000000 in
theorem UX3_takeNumber_5_ok {l : Launch} {g : qG} {d n : Nat} {R : Nat → qP Unit} (hR : ∀ (x0 : Nat), qS l g mX3_takeNumber (d + 1) n 0 0 0 0 cvV 5 [(0, .ref x0)] [] (R x0)) {K68 : Nat → qP Unit} (hK68 : ∀ (x0 : Nat), qS l g mX3_takeNumber (d + 1) n 0 0 0 0 cvV 68 [(0, .ref x0)] [] (K68 x0)) (x0 : Nat) : qS l g mX3_takeNumber (d + 1) n 0 0 0 0 cvV 5 [(0, .ref x0)] [] (UX3_takeNumber_5 R K68 x0) := by
  unfold UX3_takeNumber_5
  refine s_aload_n dX3_takeNumber_5 rfl ?_
  refine s_gI dX3_takeNumber_6 fX3_19 fun v1 => ?_
  refine s_aload_n dX3_takeNumber_9 rfl ?_
  refine s_gI dX3_takeNumber_10 fX3_15 fun v2 => ?_
  refine s_icmp_ge (tgt := 68) dX3_takeNumber_13 (by decide) (fun c1 => ?_) (fun c1 => ?_)
  · exact hK68 x0
  · refine s_aload_n dX3_takeNumber_16 rfl ?_
    refine s_gR dX3_takeNumber_17 fX3_11 fun v3 => ?_
    refine s_aload_n dX3_takeNumber_20 rfl ?_
    refine s_gI dX3_takeNumber_21 fX3_19 fun v4 => ?_
    refine s_aI dX3_takeNumber_24 fun v5 => ?_
    refine s_staticI (as := [.int v5]) (rest := []) dX3_takeNumber_25 sX3_154 (CX3_isFigure _) (Nat.le_of_ble_eq_true rfl) ⟨Nat.le_refl _, Nat.le_refl _⟩ fun v6 => ?_
    refine s_if_eq (tgt := 68) dX3_takeNumber_28 (by decide) (fun c2 => ?_) (fun c2 => ?_)
    · exact hK68 x0
    · refine s_aload_n dX3_takeNumber_31 rfl ?_
      refine s_aload_n dX3_takeNumber_32 rfl ?_
      refine s_gI dX3_takeNumber_33 fX3_28 fun v7 => ?_
      refine s_bipush (v := 10) dX3_takeNumber_36 (by decide) ?_
      refine s_imul dX3_takeNumber_38 ?_
      refine s_aload_n dX3_takeNumber_39 rfl ?_
      refine s_gR dX3_takeNumber_40 fX3_11 fun v8 => ?_
      refine s_aload_n dX3_takeNumber_43 rfl ?_
      refine s_gI dX3_takeNumber_44 fX3_19 fun v9 => ?_
      refine s_aI dX3_takeNumber_47 fun v10 => ?_
      refine s_iadd dX3_takeNumber_48 ?_
      refine s_bipush (v := 48) dX3_takeNumber_49 (by decide) ?_
      refine s_isub dX3_takeNumber_51 ?_
      refine s_put dX3_takeNumber_52 fX3_28 rfl rfl ?_
      refine s_aload_n dX3_takeNumber_55 rfl ?_
      refine s_dup dX3_takeNumber_56 rfl ?_
      refine s_gI dX3_takeNumber_57 fX3_19 fun v11 => ?_
      refine s_iconst (v := 1) dX3_takeNumber_60 (by decide) ?_
      refine s_iadd dX3_takeNumber_61 ?_
      refine s_put dX3_takeNumber_62 fX3_19 rfl rfl ?_
      refine s_goto (tgt := 5) dX3_takeNumber_65 (by decide) ?_
      exact hR x0
def WX3_takeNumber_5 (K68 : Nat → qP Unit) : Nat → Nat → qP Unit
  | 0 => fun _ => qfail
  | N + 1 => fun x0 => UX3_takeNumber_5 (WX3_takeNumber_5 K68 N) K68 x0
theorem WX3_takeNumber_5_ok {l : Launch} {g : qG} {d n : Nat} {K68 : Nat → qP Unit} (hK68 : ∀ (x0 : Nat), qS l g mX3_takeNumber (d + 1) n 0 0 0 0 cvV 68 [(0, .ref x0)] [] (K68 x0)) : ∀ (N : Nat) (x0 : Nat), qS l g mX3_takeNumber (d + 1) n 0 0 0 0 cvV 5 [(0, .ref x0)] [] (WX3_takeNumber_5 K68 N x0) := by
  intro N
  induction N with
  | zero => intro x0; exact s_fail
  | succ N ih => intro x0; exact UX3_takeNumber_5_ok ih hK68 x0
def UX3_takeNumber_68 (x0 : Nat) : qP Unit :=
qb (gI 3 x0 2) fun v1 =>
qb (gI 3 x0 3) fun v2 =>
if (v1 - v2) ≤ (2 : Int32) then (
qb (pV 3 x0 4 (.int (2 : Int32))) fun _ =>
qr ()) else (
qb (pV 3 x0 4 (.int (4 : Int32))) fun _ =>
qr ())
set_option maxRecDepth 100000 in
set_option maxHeartbeats 4000000 in
theorem UX3_takeNumber_68_ok {l : Launch} {g : qG} {d n : Nat} (x0 : Nat) : qS l g mX3_takeNumber (d + 1) n 0 0 0 0 cvV 68 [(0, .ref x0)] [] (UX3_takeNumber_68 x0) := by
  unfold UX3_takeNumber_68
  refine s_aload_n dX3_takeNumber_68 rfl ?_
  refine s_aload_n dX3_takeNumber_69 rfl ?_
  refine s_gI dX3_takeNumber_70 fX3_19 fun v1 => ?_
  refine s_aload_n dX3_takeNumber_73 rfl ?_
  refine s_gI dX3_takeNumber_74 fX3_22 fun v2 => ?_
  refine s_isub dX3_takeNumber_77 ?_
  refine s_iconst (v := 2) dX3_takeNumber_78 (by decide) ?_
  refine s_icmp_le (tgt := 86) dX3_takeNumber_79 (by decide) (fun c1 => ?_) (fun c1 => ?_)
  · refine s_iconst (v := 2) dX3_takeNumber_86 (by decide) ?_
    refine s_put dX3_takeNumber_87 fX3_25 rfl rfl ?_
    exact s_return dX3_takeNumber_90 rfl
  · refine s_iconst (v := 4) dX3_takeNumber_82 (by decide) ?_
    refine s_goto (tgt := 87) dX3_takeNumber_83 (by decide) ?_
    refine s_put dX3_takeNumber_87 fX3_25 rfl rfl ?_
    exact s_return dX3_takeNumber_90 rfl
def FX3_takeNumber (x0 : Nat) : qP Unit :=
qb (pV 3 x0 5 (.int (0 : Int32))) fun _ =>
WX3_takeNumber_5 (UX3_takeNumber_68) 1000000 x0
set_option maxRecDepth 100000 in
set_option maxHeartbeats 4000000 in
theorem FX3_takeNumber_ok {l : Launch} {g : qG} {d n : Nat} (x0 : Nat) : qS l g mX3_takeNumber (d + 1) n 0 0 0 0 cvV 0 [(0, .ref x0)] [] (FX3_takeNumber x0) := by
  unfold FX3_takeNumber
  refine s_aload_n dX3_takeNumber_0 rfl ?_
  refine s_iconst (v := 0) dX3_takeNumber_1 (by decide) ?_
  refine s_put dX3_takeNumber_2 fX3_28 rfl rfl ?_
  exact WX3_takeNumber_5_ok (UX3_takeNumber_68_ok) 1000000 x0
theorem CX3_takeNumber {l : Launch} {g : qG} {d : Nat} (x0 : Nat) : qCt l g mX3_takeNumber (d + 1) 0 0 cvV [.ref x0] (FX3_takeNumber x0) := s_of pn_X3 (Nat.le_of_ble_eq_true rfl) fun n => FX3_takeNumber_ok x0
def UX3_takeToken_0 (R : Nat → qP Unit) (K38 : Nat → qP Unit) (x0 : Nat) : qP Unit :=
qb (gI 3 x0 2) fun v1 =>
qb (gI 3 x0 1) fun v2 =>
if v2 ≤ v1 then (
K38 x0) else (
qb (gR 3 x0 0) fun v3 =>
qb (gI 3 x0 2) fun v4 =>
qb (aI v3 v4) fun v5 =>
if v5 = (32 : Int32) then (
qb (gI 3 x0 2) fun v6 =>
qb (pV 3 x0 2 (.int (v6 + (1 : Int32)))) fun _ =>
R x0) else (
K38 x0))
set_option maxRecDepth 100000 in
set_option maxHeartbeats 4000000 in
theorem UX3_takeToken_0_ok {l : Launch} {g : qG} {d n : Nat} {R : Nat → qP Unit} (hR : ∀ (x0 : Nat), qS l g mX3_takeToken (d + 2) n 0 0 0 0 cvV 0 [(0, .ref x0)] [] (R x0)) {K38 : Nat → qP Unit} (hK38 : ∀ (x0 : Nat), qS l g mX3_takeToken (d + 2) n 0 0 0 0 cvV 38 [(0, .ref x0)] [] (K38 x0)) (x0 : Nat) : qS l g mX3_takeToken (d + 2) n 0 0 0 0 cvV 0 [(0, .ref x0)] [] (UX3_takeToken_0 R K38 x0) := by
  unfold UX3_takeToken_0
  refine s_aload_n dX3_takeToken_0 rfl ?_
  refine s_gI dX3_takeToken_1 fX3_19 fun v1 => ?_
  refine s_aload_n dX3_takeToken_4 rfl ?_
  refine s_gI dX3_takeToken_5 fX3_15 fun v2 => ?_
  refine s_icmp_ge (tgt := 38) dX3_takeToken_8 (by decide) (fun c1 => ?_) (fun c1 => ?_)
  · exact hK38 x0
  · refine s_aload_n dX3_takeToken_11 rfl ?_
    refine s_gR dX3_takeToken_12 fX3_11 fun v3 => ?_
    refine s_aload_n dX3_takeToken_15 rfl ?_
    refine s_gI dX3_takeToken_16 fX3_19 fun v4 => ?_
    refine s_aI dX3_takeToken_19 fun v5 => ?_
    refine s_bipush (v := 32) dX3_takeToken_20 (by decide) ?_
    refine s_icmp_ne (tgt := 38) dX3_takeToken_22 (by decide) (fun c2 => ?_) (fun c2 => ?_)
    · refine s_aload_n dX3_takeToken_25 rfl ?_
      refine s_dup dX3_takeToken_26 rfl ?_
      refine s_gI dX3_takeToken_27 fX3_19 fun v6 => ?_
      refine s_iconst (v := 1) dX3_takeToken_30 (by decide) ?_
      refine s_iadd dX3_takeToken_31 ?_
      refine s_put dX3_takeToken_32 fX3_19 rfl rfl ?_
      refine s_goto (tgt := 0) dX3_takeToken_35 (by decide) ?_
      exact hR x0
    · exact hK38 x0
def WX3_takeToken_0 (K38 : Nat → qP Unit) : Nat → Nat → qP Unit
  | 0 => fun _ => qfail
  | N + 1 => fun x0 => UX3_takeToken_0 (WX3_takeToken_0 K38 N) K38 x0
theorem WX3_takeToken_0_ok {l : Launch} {g : qG} {d n : Nat} {K38 : Nat → qP Unit} (hK38 : ∀ (x0 : Nat), qS l g mX3_takeToken (d + 2) n 0 0 0 0 cvV 38 [(0, .ref x0)] [] (K38 x0)) : ∀ (N : Nat) (x0 : Nat), qS l g mX3_takeToken (d + 2) n 0 0 0 0 cvV 0 [(0, .ref x0)] [] (WX3_takeToken_0 K38 N x0) := by
  intro N
  induction N with
  | zero => intro x0; exact s_fail
  | succ N ih => intro x0; exact UX3_takeToken_0_ok ih hK38 x0
def UX3_takeToken_130 (x0 : Nat) (s0 : Nat) (s1 : Int32) : qP Unit :=
qb (pV 3 s0 4 (.int s1)) fun _ =>
qb (gI 3 x0 2) fun v1 =>
qb (pV 3 x0 2 (.int (v1 + (1 : Int32)))) fun _ =>
qr ()
set_option maxRecDepth 100000 in
set_option maxHeartbeats 4000000 in
theorem UX3_takeToken_130_ok {l : Launch} {g : qG} {d n : Nat} (x0 : Nat) (s0 : Nat) (s1 : Int32) : qS l g mX3_takeToken (d + 2) n 0 0 0 0 cvV 130 [(0, .ref x0)] [.int s1, .ref s0] (UX3_takeToken_130 x0 s0 s1) := by
  unfold UX3_takeToken_130
  refine s_put dX3_takeToken_130 fX3_25 rfl rfl ?_
  refine s_aload_n dX3_takeToken_133 rfl ?_
  refine s_dup dX3_takeToken_134 rfl ?_
  refine s_gI dX3_takeToken_135 fX3_19 fun v1 => ?_
  refine s_iconst (v := 1) dX3_takeToken_138 (by decide) ?_
  refine s_iadd dX3_takeToken_139 ?_
  refine s_put dX3_takeToken_140 fX3_19 rfl rfl ?_
  exact s_return dX3_takeToken_143 rfl
def UX3_takeToken_38 (x0 : Nat) : qP Unit :=
qb (gI 3 x0 2) fun v1 =>
qb (pV 3 x0 3 (.int v1)) fun _ =>
qb (gI 3 x0 2) fun v2 =>
qb (gI 3 x0 1) fun v3 =>
if v2 < v3 then (
qb (gR 3 x0 0) fun v4 =>
qb (gI 3 x0 2) fun v5 =>
qb (aI v4 v5) fun v6 =>
qb (FX3_signOf v6) fun v7 =>
if v7 = (-1 : Int32) then (
qb (gR 3 x0 0) fun v8 =>
qb (gI 3 x0 2) fun v9 =>
qb (aI v8 v9) fun v10 =>
qb (FX3_isFigure v10) fun v11 =>
if v11 = 0 then (
qb (gR 3 x0 0) fun v12 =>
qb (gI 3 x0 2) fun v13 =>
qb (aI v12 v13) fun v14 =>
if v14 = (59 : Int32) then (
UX3_takeToken_130 x0 x0 (3 : Int32)) else (
UX3_takeToken_130 x0 x0 (4 : Int32))) else (
qb (qcl 3 x0) fun _ => qb (FX3_takeNumber x0) fun v15 =>
qr ())) else (
qb (qcl 3 x0) fun _ => qb (FX3_takeWord x0) fun v16 =>
qr ())) else (
qb (pV 3 x0 4 (.int (0 : Int32))) fun _ =>
qr ())
set_option maxRecDepth 100000 in
set_option maxHeartbeats 4000000 in
theorem UX3_takeToken_38_ok {l : Launch} {g : qG} {d n : Nat} (x0 : Nat) : qS l g mX3_takeToken (d + 2) n 0 0 0 0 cvV 38 [(0, .ref x0)] [] (UX3_takeToken_38 x0) := by
  unfold UX3_takeToken_38
  refine s_aload_n dX3_takeToken_38 rfl ?_
  refine s_aload_n dX3_takeToken_39 rfl ?_
  refine s_gI dX3_takeToken_40 fX3_19 fun v1 => ?_
  refine s_put dX3_takeToken_43 fX3_22 rfl rfl ?_
  refine s_aload_n dX3_takeToken_46 rfl ?_
  refine s_gI dX3_takeToken_47 fX3_19 fun v2 => ?_
  refine s_aload_n dX3_takeToken_50 rfl ?_
  refine s_gI dX3_takeToken_51 fX3_15 fun v3 => ?_
  refine s_icmp_lt (tgt := 65) dX3_takeToken_54 (by decide) (fun c1 => ?_) (fun c1 => ?_)
  · refine s_aload_n dX3_takeToken_65 rfl ?_
    refine s_gR dX3_takeToken_66 fX3_11 fun v4 => ?_
    refine s_aload_n dX3_takeToken_69 rfl ?_
    refine s_gI dX3_takeToken_70 fX3_19 fun v5 => ?_
    refine s_aI dX3_takeToken_73 fun v6 => ?_
    refine s_staticI (as := [.int v6]) (rest := []) dX3_takeToken_74 sX3_89 (CX3_signOf _) (Nat.le_of_ble_eq_true rfl) ⟨Nat.le_refl _, Nat.le_refl _⟩ fun v7 => ?_
    refine s_iconst (v := -1) dX3_takeToken_77 (by decide) ?_
    refine s_icmp_eq (tgt := 88) dX3_takeToken_78 (by decide) (fun c2 => ?_) (fun c2 => ?_)
    · refine s_aload_n dX3_takeToken_88 rfl ?_
      refine s_gR dX3_takeToken_89 fX3_11 fun v8 => ?_
      refine s_aload_n dX3_takeToken_92 rfl ?_
      refine s_gI dX3_takeToken_93 fX3_19 fun v9 => ?_
      refine s_aI dX3_takeToken_96 fun v10 => ?_
      refine s_staticI (as := [.int v10]) (rest := []) dX3_takeToken_97 sX3_154 (CX3_isFigure _) (Nat.le_of_ble_eq_true rfl) ⟨Nat.le_refl _, Nat.le_refl _⟩ fun v11 => ?_
      refine s_if_eq (tgt := 110) dX3_takeToken_100 (by decide) (fun c3 => ?_) (fun c3 => ?_)
      · refine s_aload_n dX3_takeToken_110 rfl ?_
        refine s_aload_n dX3_takeToken_111 rfl ?_
        refine s_gR dX3_takeToken_112 fX3_11 fun v12 => ?_
        refine s_aload_n dX3_takeToken_115 rfl ?_
        refine s_gI dX3_takeToken_116 fX3_19 fun v13 => ?_
        refine s_aI dX3_takeToken_119 fun v14 => ?_
        refine s_bipush (v := 59) dX3_takeToken_120 (by decide) ?_
        refine s_icmp_ne (tgt := 129) dX3_takeToken_122 (by decide) (fun c4 => ?_) (fun c4 => ?_)
        · refine s_iconst (v := 3) dX3_takeToken_125 (by decide) ?_
          refine s_goto (tgt := 130) dX3_takeToken_126 (by decide) ?_
          exact UX3_takeToken_130_ok x0 x0 (3 : Int32)
        · refine s_iconst (v := 4) dX3_takeToken_129 (by decide) ?_
          exact UX3_takeToken_130_ok x0 x0 (4 : Int32)
      · refine s_aload_n dX3_takeToken_103 rfl ?_
        refine s_virtV (as := []) (rest := []) dX3_takeToken_104 vX3_158 (CX3_takeNumber _) (Nat.le_of_ble_eq_true rfl) ⟨Nat.le_refl _, Nat.le_refl _⟩ fun v15 => ?_
        refine s_goto (tgt := 143) dX3_takeToken_107 (by decide) ?_
        exact s_return dX3_takeToken_143 rfl
    · refine s_aload_n dX3_takeToken_81 rfl ?_
      refine s_virtV (as := []) (rest := []) dX3_takeToken_82 vX3_151 (CX3_takeWord _) (Nat.le_of_ble_eq_true rfl) ⟨Nat.le_refl _, Nat.le_refl _⟩ fun v16 => ?_
      refine s_goto (tgt := 143) dX3_takeToken_85 (by decide) ?_
      exact s_return dX3_takeToken_143 rfl
  · refine s_aload_n dX3_takeToken_57 rfl ?_
    refine s_iconst (v := 0) dX3_takeToken_58 (by decide) ?_
    refine s_put dX3_takeToken_59 fX3_25 rfl rfl ?_
    refine s_goto (tgt := 143) dX3_takeToken_62 (by decide) ?_
    exact s_return dX3_takeToken_143 rfl
def FX3_takeToken (x0 : Nat) : qP Unit := WX3_takeToken_0 (UX3_takeToken_38) 1000000 x0
theorem FX3_takeToken_ok {l : Launch} {g : qG} {d n : Nat} (x0 : Nat) : qS l g mX3_takeToken (d + 2) n 0 0 0 0 cvV 0 [(0, .ref x0)] [] (FX3_takeToken x0) := by
  unfold FX3_takeToken
  exact WX3_takeToken_0_ok (UX3_takeToken_38_ok) 1000000 x0
theorem CX3_takeToken {l : Launch} {g : qG} {d : Nat} (x0 : Nat) : qCt l g mX3_takeToken (d + 2) 0 0 cvV [.ref x0] (FX3_takeToken x0) := s_of pn_X3 (Nat.le_of_ble_eq_true rfl) fun n => FX3_takeToken_ok x0
def FX3_name (x0 : Int32) : qP Nat :=
if x0 = 0 then (
qr (1000000 + 0)) else (
if x0 = 1 then (
qr (1000000 + 1)) else (
if x0 = 2 then (
qr (1000000 + 2)) else (
if x0 = 3 then (
qr (1000000 + 3)) else (
if x0 = 4 then (
qr (1000000 + 4)) else (
qr (1000000 + 5))))))
set_option maxRecDepth 100000 in
set_option maxHeartbeats 4000000 in
theorem FX3_name_ok {l : Launch} {g : qG} {d n : Nat} (x0 : Int32) : qS l g mX3_name d n 0 0 0 0 cvR 0 [(0, .int x0)] [] (FX3_name x0) := by
  unfold FX3_name
  refine s_iload_n dX3_name_0 rfl ?_
  refine s_case (fun c1 => ?_) (fun c1 => ?_)
  · refine s_tableIn (y := 0) (tgt := 36) dX3_name_1 c1 (by decide) (by decide) rfl (by decide) ?_
    refine s_ldcS (j := 0) dX3_name_36 rfl (by decide) rfl ?_
    exact s_areturn dX3_name_38 rfl (Or.inl ⟨_, rfl⟩)
  · refine s_case (fun c2 => ?_) (fun c2 => ?_)
    · refine s_tableIn (y := 1) (tgt := 39) dX3_name_1 c2 (by decide) (by decide) rfl (by decide) ?_
      refine s_ldcS (j := 1) dX3_name_39 rfl (by decide) rfl ?_
      exact s_areturn dX3_name_41 rfl (Or.inl ⟨_, rfl⟩)
    · refine s_case (fun c3 => ?_) (fun c3 => ?_)
      · refine s_tableIn (y := 2) (tgt := 42) dX3_name_1 c3 (by decide) (by decide) rfl (by decide) ?_
        refine s_ldcS (j := 2) dX3_name_42 rfl (by decide) rfl ?_
        exact s_areturn dX3_name_44 rfl (Or.inl ⟨_, rfl⟩)
      · refine s_case (fun c4 => ?_) (fun c4 => ?_)
        · refine s_tableIn (y := 3) (tgt := 45) dX3_name_1 c4 (by decide) (by decide) rfl (by decide) ?_
          refine s_ldcS (j := 3) dX3_name_45 rfl (by decide) rfl ?_
          exact s_areturn dX3_name_47 rfl (Or.inl ⟨_, rfl⟩)
        · refine s_case (fun c5 => ?_) (fun c5 => ?_)
          · refine s_tableIn (y := 4) (tgt := 48) dX3_name_1 c5 (by decide) (by decide) rfl (by decide) ?_
            refine s_ldcS (j := 4) dX3_name_48 rfl (by decide) rfl ?_
            exact s_areturn dX3_name_50 rfl (Or.inl ⟨_, rfl⟩)
          · refine s_tableOut (tgt := 51) dX3_name_1 (by
              have e : ¬ x0.toInt = 0 ∧ ¬ x0.toInt = 1 ∧ ¬ x0.toInt = 2 ∧ ¬ x0.toInt = 3 ∧ ¬ x0.toInt = 4 := ⟨lv_neT c1 (by decide), lv_neT c2 (by decide), lv_neT c3 (by decide), lv_neT c4 (by decide), lv_neT c5 (by decide)⟩
              omega) (by decide) ?_
            refine s_ldcS (j := 5) dX3_name_51 rfl (by decide) rfl ?_
            exact s_areturn dX3_name_53 rfl (Or.inl ⟨_, rfl⟩)
theorem CX3_name {l : Launch} {g : qG} {d : Nat} (x0 : Int32) : qCt l g mX3_name d 0 0 cvR [.int x0] (FX3_name x0) := s_of pn_X3 (Nat.le_of_ble_eq_true rfl) fun n => FX3_name_ok x0
def UX3_isTaken_20 (R : Nat → Nat → Int32 → qP Int32) (x0 : Nat) (x1 : Nat) (x2 : Int32) : qP Int32 :=
qb (tG x1) fun _ => qb (FJ0_length_8abf5 x1) fun v1 =>
if v1 ≤ x2 then (
qr (1 : Int32)) else (
qb (gR 3 x0 0) fun v2 =>
qb (gI 3 x0 3) fun v3 =>
qb (aI v2 (v3 + x2)) fun v4 =>
qb (tG x1) fun _ => qb (FJ0_charAt_5068e x1 x2) fun v5 =>
if v4 = v5 then (
R x0 x1 (x2 + 1)) else (
qr (0 : Int32)))
set_option maxRecDepth 100000 in
set_option maxHeartbeats 4000000 in
theorem UX3_isTaken_20_ok {l : Launch} {g : qG} {d n : Nat} {R : Nat → Nat → Int32 → qP Int32} (hR : ∀ (x0 : Nat) (x1 : Nat) (x2 : Int32), qS l g mX3_isTaken (d + 4) n 0 0 0 0 cvI 20 [(0, .ref x0), (1, .ref x1), (2, .int x2)] [] (R x0 x1 x2)) (x0 : Nat) (x1 : Nat) (x2 : Int32) : qS l g mX3_isTaken (d + 4) n 0 0 0 0 cvI 20 [(0, .ref x0), (1, .ref x1), (2, .int x2)] [] (UX3_isTaken_20 R x0 x1 x2) := by
  unfold UX3_isTaken_20
  refine s_iload_n dX3_isTaken_20 rfl ?_
  refine s_aload_n dX3_isTaken_21 rfl ?_
  refine s_virtT (as := []) (rest := [.int x2]) dX3_isTaken_22 vX3_108 (CJ0_length_8abf5 _) (Nat.le_of_ble_eq_true rfl) ⟨Nat.le_refl _, Nat.le_refl _⟩ fun v1 => ?_
  refine s_icmp_ge (tgt := 55) dX3_isTaken_25 (by decide) (fun c1 => ?_) (fun c1 => ?_)
  · refine s_iconst (v := 1) dX3_isTaken_55 (by decide) ?_
    exact s_ireturn dX3_isTaken_56 rfl (by decide)
  · refine s_aload_n dX3_isTaken_28 rfl ?_
    refine s_gR dX3_isTaken_29 fX3_11 fun v2 => ?_
    refine s_aload_n dX3_isTaken_32 rfl ?_
    refine s_gI dX3_isTaken_33 fX3_22 fun v3 => ?_
    refine s_iload_n dX3_isTaken_36 rfl ?_
    refine s_iadd dX3_isTaken_37 ?_
    refine s_aI dX3_isTaken_38 fun v4 => ?_
    refine s_aload_n dX3_isTaken_39 rfl ?_
    refine s_iload_n dX3_isTaken_40 rfl ?_
    refine s_virtT (as := [.int x2]) (rest := [.int v4]) dX3_isTaken_41 vX3_113 (CJ0_charAt_5068e _ _) (Nat.le_of_ble_eq_true rfl) ⟨Nat.le_refl _, Nat.le_refl _⟩ fun v5 => ?_
    refine s_icmp_eq (tgt := 49) dX3_isTaken_44 (by decide) (fun c2 => ?_) (fun c2 => ?_)
    · refine s_iinc (lv' := [(2, .int (x2 + 1)), (0, .ref x0), (1, .ref x1)]) dX3_isTaken_49 rfl (by decide) rfl ?_
      refine s_goto (tgt := 20) dX3_isTaken_52 (by decide) ?_
      refine s_locals [1, 2, 0] rfl ?_
      exact hR x0 x1 (x2 + 1)
    · refine s_iconst (v := 0) dX3_isTaken_47 (by decide) ?_
      exact s_ireturn dX3_isTaken_48 rfl (by decide)
def WX3_isTaken_20 : Nat → Nat → Nat → Int32 → qP Int32
  | 0 => fun _ _ _ => qfail
  | N + 1 => fun x0 x1 x2 => UX3_isTaken_20 (WX3_isTaken_20  N)  x0 x1 x2
theorem WX3_isTaken_20_ok {l : Launch} {g : qG} {d n : Nat} : ∀ (N : Nat) (x0 : Nat) (x1 : Nat) (x2 : Int32), qS l g mX3_isTaken (d + 4) n 0 0 0 0 cvI 20 [(0, .ref x0), (1, .ref x1), (2, .int x2)] [] (WX3_isTaken_20  N x0 x1 x2) := by
  intro N
  induction N with
  | zero => intro x0 x1 x2; exact s_fail
  | succ N ih => intro x0 x1 x2; exact UX3_isTaken_20_ok ih  x0 x1 x2
def FX3_isTaken (x0 : Nat) (x1 : Nat) : qP Int32 :=
qb (gI 3 x0 2) fun v1 =>
qb (gI 3 x0 3) fun v2 =>
qb (tG x1) fun _ => qb (FJ0_length_8abf5 x1) fun v3 =>
if (v1 - v2) = v3 then (
WX3_isTaken_20 1000000 x0 x1 (0 : Int32)) else (
qr (0 : Int32))
set_option maxRecDepth 100000 in
set_option maxHeartbeats 4000000 in
theorem FX3_isTaken_ok {l : Launch} {g : qG} {d n : Nat} (x0 : Nat) (x1 : Nat) : qS l g mX3_isTaken (d + 4) n 0 0 0 0 cvI 0 [(0, .ref x0), (1, .ref x1)] [] (FX3_isTaken x0 x1) := by
  unfold FX3_isTaken
  refine s_aload_n dX3_isTaken_0 rfl ?_
  refine s_gI dX3_isTaken_1 fX3_19 fun v1 => ?_
  refine s_aload_n dX3_isTaken_4 rfl ?_
  refine s_gI dX3_isTaken_5 fX3_22 fun v2 => ?_
  refine s_isub dX3_isTaken_8 ?_
  refine s_aload_n dX3_isTaken_9 rfl ?_
  refine s_virtT (as := []) (rest := [.int (v1 - v2)]) dX3_isTaken_10 vX3_108 (CJ0_length_8abf5 _) (Nat.le_of_ble_eq_true rfl) ⟨Nat.le_refl _, Nat.le_refl _⟩ fun v3 => ?_
  refine s_icmp_eq (tgt := 18) dX3_isTaken_13 (by decide) (fun c1 => ?_) (fun c1 => ?_)
  · refine s_iconst (v := 0) dX3_isTaken_18 (by decide) ?_
    refine s_istore_n (lv' := [(2, .int (0 : Int32)), (0, .ref x0), (1, .ref x1)]) dX3_isTaken_19 (by decide) rfl ?_
    refine s_locals [1, 2, 0] rfl ?_
    exact WX3_isTaken_20_ok  1000000 x0 x1 (0 : Int32)
  · refine s_iconst (v := 0) dX3_isTaken_16 (by decide) ?_
    exact s_ireturn dX3_isTaken_17 rfl (by decide)
theorem CX3_isTaken {l : Launch} {g : qG} {d : Nat} (x0 : Nat) (x1 : Nat) : qCt l g mX3_isTaken (d + 4) 0 0 cvI [.ref x0, .ref x1] (FX3_isTaken x0 x1) := s_of pn_X3 (Nat.le_of_ble_eq_true rfl) fun n => FX3_isTaken_ok x0 x1
def UX3_itemNamed_2 (R : Nat → Int32 → qP Int32) (x0 : Nat) (x1 : Int32) : qP Int32 :=
if (6 : Int32) ≤ x1 then (
qr (-1 : Int32)) else (
qb (FX3_name x1) fun v1 =>
qb (qcl 3 x0) fun _ => qb (FX3_isTaken x0 v1) fun v2 =>
if v2 = 0 then (
R x0 (x1 + 1)) else (
qr x1))
set_option maxRecDepth 100000 in
set_option maxHeartbeats 4000000 in
theorem UX3_itemNamed_2_ok {l : Launch} {g : qG} {d n : Nat} {R : Nat → Int32 → qP Int32} (hR : ∀ (x0 : Nat) (x1 : Int32), qS l g mX3_itemNamed (d + 5) n 0 0 0 0 cvI 2 [(0, .ref x0), (1, .int x1)] [] (R x0 x1)) (x0 : Nat) (x1 : Int32) : qS l g mX3_itemNamed (d + 5) n 0 0 0 0 cvI 2 [(0, .ref x0), (1, .int x1)] [] (UX3_itemNamed_2 R x0 x1) := by
  unfold UX3_itemNamed_2
  refine s_iload_n dX3_itemNamed_2 rfl ?_
  refine s_bipush (v := 6) dX3_itemNamed_3 (by decide) ?_
  refine s_icmp_ge (tgt := 27) dX3_itemNamed_5 (by decide) (fun c1 => ?_) (fun c1 => ?_)
  · refine s_iconst (v := -1) dX3_itemNamed_27 (by decide) ?_
    exact s_ireturn dX3_itemNamed_28 rfl rfl
  · refine s_aload_n dX3_itemNamed_8 rfl ?_
    refine s_iload_n dX3_itemNamed_9 rfl ?_
    refine s_staticR (as := [.int x1]) (rest := [.ref x0]) dX3_itemNamed_10 sX3_121 (CX3_name _) (Nat.le_of_ble_eq_true rfl) ⟨Nat.le_refl _, Nat.le_refl _⟩ fun v1 => ?_
    refine s_virtI (as := [.ref v1]) (rest := []) dX3_itemNamed_13 vX3_124 (CX3_isTaken _ _) (Nat.le_of_ble_eq_true rfl) ⟨Nat.le_refl _, Nat.le_refl _⟩ fun v2 => ?_
    refine s_if_eq (tgt := 21) dX3_itemNamed_16 (by decide) (fun c2 => ?_) (fun c2 => ?_)
    · refine s_iinc (lv' := [(1, .int (x1 + 1)), (0, .ref x0)]) dX3_itemNamed_21 rfl (by decide) rfl ?_
      refine s_goto (tgt := 2) dX3_itemNamed_24 (by decide) ?_
      refine s_locals [1, 0] rfl ?_
      exact hR x0 (x1 + 1)
    · refine s_iload_n dX3_itemNamed_19 rfl ?_
      exact s_ireturn dX3_itemNamed_20 rfl rfl
def WX3_itemNamed_2 : Nat → Nat → Int32 → qP Int32
  | 0 => fun _ _ => qfail
  | N + 1 => fun x0 x1 => UX3_itemNamed_2 (WX3_itemNamed_2  N)  x0 x1
theorem WX3_itemNamed_2_ok {l : Launch} {g : qG} {d n : Nat} : ∀ (N : Nat) (x0 : Nat) (x1 : Int32), qS l g mX3_itemNamed (d + 5) n 0 0 0 0 cvI 2 [(0, .ref x0), (1, .int x1)] [] (WX3_itemNamed_2  N x0 x1) := by
  intro N
  induction N with
  | zero => intro x0 x1; exact s_fail
  | succ N ih => intro x0 x1; exact UX3_itemNamed_2_ok ih  x0 x1
def FX3_itemNamed (x0 : Nat) : qP Int32 :=
WX3_itemNamed_2 1000000 x0 (0 : Int32)
set_option maxRecDepth 100000 in
set_option maxHeartbeats 4000000 in
theorem FX3_itemNamed_ok {l : Launch} {g : qG} {d n : Nat} (x0 : Nat) : qS l g mX3_itemNamed (d + 5) n 0 0 0 0 cvI 0 [(0, .ref x0)] [] (FX3_itemNamed x0) := by
  unfold FX3_itemNamed
  refine s_iconst (v := 0) dX3_itemNamed_0 (by decide) ?_
  refine s_istore_n (lv' := [(1, .int (0 : Int32)), (0, .ref x0)]) dX3_itemNamed_1 (by decide) rfl ?_
  refine s_locals [1, 0] rfl ?_
  exact WX3_itemNamed_2_ok  1000000 x0 (0 : Int32)
theorem CX3_itemNamed {l : Launch} {g : qG} {d : Nat} (x0 : Nat) : qCt l g mX3_itemNamed (d + 5) 0 0 cvI [.ref x0] (FX3_itemNamed x0) := s_of pn_X3 (Nat.le_of_ble_eq_true rfl) fun n => FX3_itemNamed_ok x0
def FX3_form (x0 : Int32) : qP Nat :=
if x0 = 0 then (
qr (1000000 + 6)) else (
if x0 = 4 then (
qr (1000000 + 7)) else (
if x0 = 5 then (
qr (1000000 + 8)) else (
qr (1000000 + 9))))
set_option maxRecDepth 100000 in
set_option maxHeartbeats 4000000 in
theorem FX3_form_ok {l : Launch} {g : qG} {d n : Nat} (x0 : Int32) : qS l g mX3_form d n 0 0 0 0 cvR 0 [(0, .int x0)] [] (FX3_form x0) := by
  unfold FX3_form
  refine s_iload_n dX3_form_0 rfl ?_
  refine s_case (fun c1 => ?_) (fun c1 => ?_)
  · refine s_lookup (off := 35) (tgt := 36) dX3_form_1 (by decide) (by rw [c1]; rfl) (by decide) ?_
    refine s_ldcS (j := 6) dX3_form_36 rfl (by decide) rfl ?_
    exact s_areturn dX3_form_38 rfl (Or.inl ⟨_, rfl⟩)
  · refine s_case (fun c2 => ?_) (fun c2 => ?_)
    · refine s_lookup (off := 38) (tgt := 39) dX3_form_1 (by decide) (by rw [c2]; rfl) (by decide) ?_
      refine s_ldcS (j := 7) dX3_form_39 rfl (by decide) rfl ?_
      exact s_areturn dX3_form_41 rfl (Or.inl ⟨_, rfl⟩)
    · refine s_case (fun c3 => ?_) (fun c3 => ?_)
      · refine s_lookup (off := 41) (tgt := 42) dX3_form_1 (by decide) (by rw [c3]; rfl) (by decide) ?_
        refine s_ldcS (j := 8) dX3_form_42 rfl (by decide) rfl ?_
        exact s_areturn dX3_form_44 rfl (Or.inl ⟨_, rfl⟩)
      · refine s_lookup (off := 44) (tgt := 45) dX3_form_1 (by decide) ((lv_osw c1 (by decide)).trans ((lv_osw c2 (by decide)).trans (lv_osw c3 (by decide)))) (by decide) ?_
        refine s_ldcS (j := 9) dX3_form_45 rfl (by decide) rfl ?_
        exact s_areturn dX3_form_47 rfl (Or.inl ⟨_, rfl⟩)
theorem CX3_form {l : Launch} {g : qG} {d : Nat} (x0 : Int32) : qCt l g mX3_form d 0 0 cvR [.int x0] (FX3_form x0) := s_of pn_X3 (Nat.le_of_ble_eq_true rfl) fun n => FX3_form_ok x0
def UX3_standsWord_44 (R : Nat → Int32 → Int32 → qP Int32) (x0 : Nat) (x2 : Int32) (x3 : Int32) : qP Int32 :=
qb (gI 3 x0 2) fun v1 =>
if v1 ≤ x3 then (
qr (1 : Int32)) else (
qb (gR 3 x0 0) fun v2 =>
qb (aI v2 x3) fun v3 =>
qb (FX3_signOf v3) fun v4 =>
if v4 ≤ x2 then (
R x0 x2 (x3 + 1)) else (
qr (0 : Int32)))
set_option maxRecDepth 100000 in
set_option maxHeartbeats 4000000 in
theorem UX3_standsWord_44_ok {l : Launch} {g : qG} {d n : Nat} {R : Nat → Int32 → Int32 → qP Int32} (hR : ∀ (x0 : Nat) (x2 : Int32) (x3 : Int32), qS l g mX3_standsWord (d + 1) n 0 0 0 0 cvI 44 [(0, .ref x0), (2, .int x2), (3, .int x3)] [] (R x0 x2 x3)) (x0 : Nat) (x2 : Int32) (x3 : Int32) : qS l g mX3_standsWord (d + 1) n 0 0 0 0 cvI 44 [(0, .ref x0), (2, .int x2), (3, .int x3)] [] (UX3_standsWord_44 R x0 x2 x3) := by
  unfold UX3_standsWord_44
  refine s_iload_n dX3_standsWord_44 rfl ?_
  refine s_aload_n dX3_standsWord_45 rfl ?_
  refine s_gI dX3_standsWord_46 fX3_19 fun v1 => ?_
  refine s_icmp_ge (tgt := 73) dX3_standsWord_49 (by decide) (fun c1 => ?_) (fun c1 => ?_)
  · refine s_iconst (v := 1) dX3_standsWord_73 (by decide) ?_
    exact s_ireturn dX3_standsWord_74 rfl (by decide)
  · refine s_aload_n dX3_standsWord_52 rfl ?_
    refine s_gR dX3_standsWord_53 fX3_11 fun v2 => ?_
    refine s_iload_n dX3_standsWord_56 rfl ?_
    refine s_aI dX3_standsWord_57 fun v3 => ?_
    refine s_staticI (as := [.int v3]) (rest := []) dX3_standsWord_58 sX3_89 (CX3_signOf _) (Nat.le_of_ble_eq_true rfl) ⟨Nat.le_refl _, Nat.le_refl _⟩ fun v4 => ?_
    refine s_iload_n dX3_standsWord_61 rfl ?_
    refine s_icmp_le (tgt := 67) dX3_standsWord_62 (by decide) (fun c2 => ?_) (fun c2 => ?_)
    · refine s_iinc (lv' := [(3, .int (x3 + 1)), (0, .ref x0), (2, .int x2)]) dX3_standsWord_67 rfl (by decide) rfl ?_
      refine s_goto (tgt := 44) dX3_standsWord_70 (by decide) ?_
      refine s_locals [1, 2, 0] rfl ?_
      exact hR x0 x2 (x3 + 1)
    · refine s_iconst (v := 0) dX3_standsWord_65 (by decide) ?_
      exact s_ireturn dX3_standsWord_66 rfl (by decide)
def WX3_standsWord_44 : Nat → Nat → Int32 → Int32 → qP Int32
  | 0 => fun _ _ _ => qfail
  | N + 1 => fun x0 x2 x3 => UX3_standsWord_44 (WX3_standsWord_44  N)  x0 x2 x3
theorem WX3_standsWord_44_ok {l : Launch} {g : qG} {d n : Nat} : ∀ (N : Nat) (x0 : Nat) (x2 : Int32) (x3 : Int32), qS l g mX3_standsWord (d + 1) n 0 0 0 0 cvI 44 [(0, .ref x0), (2, .int x2), (3, .int x3)] [] (WX3_standsWord_44  N x0 x2 x3) := by
  intro N
  induction N with
  | zero => intro x0 x2 x3; exact s_fail
  | succ N ih => intro x0 x2 x3; exact UX3_standsWord_44_ok ih  x0 x2 x3
def FX3_standsWord (x0 : Nat) (x1 : Int32) (x2 : Int32) : qP Int32 :=
qb (gI 3 x0 3) fun v1 =>
qb (pV 3 x0 9 (.int v1)) fun _ =>
qb (gI 3 x0 2) fun v2 =>
qb (pV 3 x0 10 (.int v2)) fun _ =>
qb (gI 3 x0 4) fun v3 =>
if v3 = (1 : Int32) then (
qb (gI 3 x0 2) fun v4 =>
qb (gI 3 x0 3) fun v5 =>
if (v4 - v5) ≤ x1 then (
qb (gI 3 x0 3) fun v6 =>
WX3_standsWord_44 1000000 x0 x2 v6) else (
qr (0 : Int32))) else (
qr (0 : Int32))
set_option maxRecDepth 100000 in
set_option maxHeartbeats 4000000 in
theorem FX3_standsWord_ok {l : Launch} {g : qG} {d n : Nat} (x0 : Nat) (x1 : Int32) (x2 : Int32) : qS l g mX3_standsWord (d + 1) n 0 0 0 0 cvI 0 [(0, .ref x0), (1, .int x1), (2, .int x2)] [] (FX3_standsWord x0 x1 x2) := by
  unfold FX3_standsWord
  refine s_aload_n dX3_standsWord_0 rfl ?_
  refine s_aload_n dX3_standsWord_1 rfl ?_
  refine s_gI dX3_standsWord_2 fX3_22 fun v1 => ?_
  refine s_put dX3_standsWord_5 fX3_40 rfl rfl ?_
  refine s_aload_n dX3_standsWord_8 rfl ?_
  refine s_aload_n dX3_standsWord_9 rfl ?_
  refine s_gI dX3_standsWord_10 fX3_19 fun v2 => ?_
  refine s_put dX3_standsWord_13 fX3_43 rfl rfl ?_
  refine s_aload_n dX3_standsWord_16 rfl ?_
  refine s_gI dX3_standsWord_17 fX3_25 fun v3 => ?_
  refine s_iconst (v := 1) dX3_standsWord_20 (by decide) ?_
  refine s_icmp_ne (tgt := 37) dX3_standsWord_21 (by decide) (fun c1 => ?_) (fun c1 => ?_)
  · refine s_aload_n dX3_standsWord_24 rfl ?_
    refine s_gI dX3_standsWord_25 fX3_19 fun v4 => ?_
    refine s_aload_n dX3_standsWord_28 rfl ?_
    refine s_gI dX3_standsWord_29 fX3_22 fun v5 => ?_
    refine s_isub dX3_standsWord_32 ?_
    refine s_iload_n dX3_standsWord_33 rfl ?_
    refine s_icmp_le (tgt := 39) dX3_standsWord_34 (by decide) (fun c2 => ?_) (fun c2 => ?_)
    · refine s_aload_n dX3_standsWord_39 rfl ?_
      refine s_gI dX3_standsWord_40 fX3_22 fun v6 => ?_
      refine s_istore_n (lv' := [(3, .int v6), (0, .ref x0), (1, .int x1), (2, .int x2)]) dX3_standsWord_43 (by decide) rfl ?_
      refine s_locals [1, 3, 0] rfl ?_
      exact WX3_standsWord_44_ok  1000000 x0 x2 v6
    · refine s_iconst (v := 0) dX3_standsWord_37 (by decide) ?_
      exact s_ireturn dX3_standsWord_38 rfl (by decide)
  · refine s_iconst (v := 0) dX3_standsWord_37 (by decide) ?_
    exact s_ireturn dX3_standsWord_38 rfl (by decide)
theorem CX3_standsWord {l : Launch} {g : qG} {d : Nat} (x0 : Nat) (x1 : Int32) (x2 : Int32) : qCt l g mX3_standsWord (d + 1) 0 0 cvI [.ref x0, .int x1, .int x2] (FX3_standsWord x0 x1 x2) := s_of pn_X3 (Nat.le_of_ble_eq_true rfl) fun n => FX3_standsWord_ok x0 x1 x2
def UX3_stands_75 (x0 : Nat) : qP Int32 :=
qb (gI 3 x0 4) fun v1 =>
if v1 = (2 : Int32) then (
qr (1 : Int32)) else (
qr (0 : Int32))
set_option maxRecDepth 100000 in
set_option maxHeartbeats 4000000 in
theorem UX3_stands_75_ok {l : Launch} {g : qG} {d n : Nat} (x0 : Nat) : qS l g mX3_stands (d + 2) n 0 0 0 0 cvI 75 [(0, .ref x0)] [] (UX3_stands_75 x0) := by
  unfold UX3_stands_75
  refine s_aload_n dX3_stands_75 rfl ?_
  refine s_gI dX3_stands_76 fX3_25 fun v1 => ?_
  refine s_iconst (v := 2) dX3_stands_79 (by decide) ?_
  refine s_icmp_ne (tgt := 87) dX3_stands_80 (by decide) (fun c1 => ?_) (fun c1 => ?_)
  · refine s_iconst (v := 1) dX3_stands_83 (by decide) ?_
    refine s_goto (tgt := 88) dX3_stands_84 (by decide) ?_
    exact s_ireturn dX3_stands_88 rfl (by decide)
  · refine s_iconst (v := 0) dX3_stands_87 (by decide) ?_
    exact s_ireturn dX3_stands_88 rfl (by decide)
def FX3_stands (x0 : Nat) (x1 : Int32) : qP Int32 :=
if x1 = (59 : Int32) then (
qb (gI 3 x0 4) fun v1 =>
if v1 = (3 : Int32) then (
qr (1 : Int32)) else (
qr (0 : Int32))) else (
if x1 = (108 : Int32) then (
qb (qcl 3 x0) fun _ => qb (FX3_standsWord x0 (8 : Int32) (27 : Int32)) fun v2 =>
qgd (v2 = 0 ∨ v2 = 1) (qr v2)) else (
if x1 = (100 : Int32) then (
qb (qcl 3 x0) fun _ => qb (FX3_standsWord x0 (60 : Int32) (25 : Int32)) fun v3 =>
qgd (v3 = 0 ∨ v3 = 1) (qr v3)) else (
if x1 = (49 : Int32) then (
qb (gI 3 x0 5) fun v4 =>
qb (pV 3 x0 7 (.int v4)) fun _ =>
UX3_stands_75 x0) else (
qb (gI 3 x0 5) fun v5 =>
qb (pV 3 x0 8 (.int v5)) fun _ =>
UX3_stands_75 x0))))
set_option maxRecDepth 100000 in
set_option maxHeartbeats 4000000 in
theorem FX3_stands_ok {l : Launch} {g : qG} {d n : Nat} (x0 : Nat) (x1 : Int32) : qS l g mX3_stands (d + 2) n 0 0 0 0 cvI 0 [(0, .ref x0), (1, .int x1)] [] (FX3_stands x0 x1) := by
  unfold FX3_stands
  refine s_iload_n dX3_stands_0 rfl ?_
  refine s_bipush (v := 59) dX3_stands_1 (by decide) ?_
  refine s_icmp_ne (tgt := 20) dX3_stands_3 (by decide) (fun c1 => ?_) (fun c1 => ?_)
  · refine s_aload_n dX3_stands_6 rfl ?_
    refine s_gI dX3_stands_7 fX3_25 fun v1 => ?_
    refine s_iconst (v := 3) dX3_stands_10 (by decide) ?_
    refine s_icmp_ne (tgt := 18) dX3_stands_11 (by decide) (fun c2 => ?_) (fun c2 => ?_)
    · refine s_iconst (v := 1) dX3_stands_14 (by decide) ?_
      refine s_goto (tgt := 19) dX3_stands_15 (by decide) ?_
      exact s_ireturn dX3_stands_19 rfl (by decide)
    · refine s_iconst (v := 0) dX3_stands_18 (by decide) ?_
      exact s_ireturn dX3_stands_19 rfl (by decide)
  · refine s_iload_n dX3_stands_20 rfl ?_
    refine s_bipush (v := 108) dX3_stands_21 (by decide) ?_
    refine s_icmp_ne (tgt := 35) dX3_stands_23 (by decide) (fun c3 => ?_) (fun c3 => ?_)
    · refine s_aload_n dX3_stands_26 rfl ?_
      refine s_bipush (v := 8) dX3_stands_27 (by decide) ?_
      refine s_bipush (v := 27) dX3_stands_29 (by decide) ?_
      refine s_virtI (as := [.int (8 : Int32), .int (27 : Int32)]) (rest := []) dX3_stands_31 vX3_147 (CX3_standsWord _ _ _) (Nat.le_of_ble_eq_true rfl) ⟨Nat.le_refl _, Nat.le_refl _⟩ fun v2 => ?_
      exact s_zreturn dX3_stands_34 rfl
    · refine s_iload_n dX3_stands_35 rfl ?_
      refine s_bipush (v := 100) dX3_stands_36 (by decide) ?_
      refine s_icmp_ne (tgt := 50) dX3_stands_38 (by decide) (fun c4 => ?_) (fun c4 => ?_)
      · refine s_aload_n dX3_stands_41 rfl ?_
        refine s_bipush (v := 60) dX3_stands_42 (by decide) ?_
        refine s_bipush (v := 25) dX3_stands_44 (by decide) ?_
        refine s_virtI (as := [.int (60 : Int32), .int (25 : Int32)]) (rest := []) dX3_stands_46 vX3_147 (CX3_standsWord _ _ _) (Nat.le_of_ble_eq_true rfl) ⟨Nat.le_refl _, Nat.le_refl _⟩ fun v3 => ?_
        exact s_zreturn dX3_stands_49 rfl
      · refine s_iload_n dX3_stands_50 rfl ?_
        refine s_bipush (v := 49) dX3_stands_51 (by decide) ?_
        refine s_icmp_ne (tgt := 67) dX3_stands_53 (by decide) (fun c5 => ?_) (fun c5 => ?_)
        · refine s_aload_n dX3_stands_56 rfl ?_
          refine s_aload_n dX3_stands_57 rfl ?_
          refine s_gI dX3_stands_58 fX3_28 fun v4 => ?_
          refine s_put dX3_stands_61 fX3_34 rfl rfl ?_
          refine s_goto (tgt := 75) dX3_stands_64 (by decide) ?_
          refine s_locals [0] rfl ?_
          exact UX3_stands_75_ok x0
        · refine s_aload_n dX3_stands_67 rfl ?_
          refine s_aload_n dX3_stands_68 rfl ?_
          refine s_gI dX3_stands_69 fX3_28 fun v5 => ?_
          refine s_put dX3_stands_72 fX3_37 rfl rfl ?_
          refine s_locals [0] rfl ?_
          exact UX3_stands_75_ok x0
theorem CX3_stands {l : Launch} {g : qG} {d : Nat} (x0 : Nat) (x1 : Int32) : qCt l g mX3_stands (d + 2) 0 0 cvI [.ref x0, .int x1] (FX3_stands x0 x1) := s_of pn_X3 (Nat.le_of_ble_eq_true rfl) fun n => FX3_stands_ok x0 x1
def UX3_takeItem_40 (R : Nat → Nat → Int32 → qP Int32) (x0 : Nat) (x1 : Nat) (x2 : Int32) : qP Int32 :=
qb (tG x1) fun _ => qb (FJ0_length_8abf5 x1) fun v1 =>
if v1 ≤ x2 then (
qr (1 : Int32)) else (
qb (qcl 3 x0) fun _ => qb (FX3_takeToken x0) fun v2 =>
qb (tG x1) fun _ => qb (FJ0_charAt_5068e x1 x2) fun v3 =>
qb (qcl 3 x0) fun _ => qb (FX3_stands x0 v3) fun v4 =>
if v4 = 0 then (
qr (0 : Int32)) else (
R x0 x1 (x2 + 1)))
set_option maxRecDepth 100000 in
set_option maxHeartbeats 4000000 in
theorem UX3_takeItem_40_ok {l : Launch} {g : qG} {d n : Nat} {R : Nat → Nat → Int32 → qP Int32} (hR : ∀ (x0 : Nat) (x1 : Nat) (x2 : Int32), qS l g mX3_takeItem (d + 6) n 0 0 0 0 cvI 40 [(0, .ref x0), (1, .ref x1), (2, .int x2)] [] (R x0 x1 x2)) (x0 : Nat) (x1 : Nat) (x2 : Int32) : qS l g mX3_takeItem (d + 6) n 0 0 0 0 cvI 40 [(0, .ref x0), (1, .ref x1), (2, .int x2)] [] (UX3_takeItem_40 R x0 x1 x2) := by
  unfold UX3_takeItem_40
  refine s_iload_n dX3_takeItem_40 rfl ?_
  refine s_aload_n dX3_takeItem_41 rfl ?_
  refine s_virtT (as := []) (rest := [.int x2]) dX3_takeItem_42 vX3_108 (CJ0_length_8abf5 _) (Nat.le_of_ble_eq_true rfl) ⟨Nat.le_refl _, Nat.le_refl _⟩ fun v1 => ?_
  refine s_icmp_ge (tgt := 72) dX3_takeItem_45 (by decide) (fun c1 => ?_) (fun c1 => ?_)
  · refine s_iconst (v := 1) dX3_takeItem_72 (by decide) ?_
    exact s_ireturn dX3_takeItem_73 rfl (by decide)
  · refine s_aload_n dX3_takeItem_48 rfl ?_
    refine s_virtV (as := []) (rest := []) dX3_takeItem_49 vX3_51 (CX3_takeToken _) (Nat.le_of_ble_eq_true rfl) ⟨Nat.le_refl _, Nat.le_refl _⟩ fun v2 => ?_
    refine s_aload_n dX3_takeItem_52 rfl ?_
    refine s_aload_n dX3_takeItem_53 rfl ?_
    refine s_iload_n dX3_takeItem_54 rfl ?_
    refine s_virtT (as := [.int x2]) (rest := [.ref x0]) dX3_takeItem_55 vX3_113 (CJ0_charAt_5068e _ _) (Nat.le_of_ble_eq_true rfl) ⟨Nat.le_refl _, Nat.le_refl _⟩ fun v3 => ?_
    refine s_virtI (as := [.int v3]) (rest := []) dX3_takeItem_58 vX3_117 (CX3_stands _ _) (Nat.le_of_ble_eq_true rfl) ⟨Nat.le_refl _, Nat.le_refl _⟩ fun v4 => ?_
    refine s_if_ne (tgt := 66) dX3_takeItem_61 (by decide) (fun c2 => ?_) (fun c2 => ?_)
    · refine s_iconst (v := 0) dX3_takeItem_64 (by decide) ?_
      exact s_ireturn dX3_takeItem_65 rfl (by decide)
    · refine s_iinc (lv' := [(2, .int (x2 + 1)), (0, .ref x0), (1, .ref x1)]) dX3_takeItem_66 rfl (by decide) rfl ?_
      refine s_goto (tgt := 40) dX3_takeItem_69 (by decide) ?_
      refine s_locals [1, 2, 0] rfl ?_
      exact hR x0 x1 (x2 + 1)
def WX3_takeItem_40 : Nat → Nat → Nat → Int32 → qP Int32
  | 0 => fun _ _ _ => qfail
  | N + 1 => fun x0 x1 x2 => UX3_takeItem_40 (WX3_takeItem_40  N)  x0 x1 x2
theorem WX3_takeItem_40_ok {l : Launch} {g : qG} {d n : Nat} : ∀ (N : Nat) (x0 : Nat) (x1 : Nat) (x2 : Int32), qS l g mX3_takeItem (d + 6) n 0 0 0 0 cvI 40 [(0, .ref x0), (1, .ref x1), (2, .int x2)] [] (WX3_takeItem_40  N x0 x1 x2) := by
  intro N
  induction N with
  | zero => intro x0 x1 x2; exact s_fail
  | succ N ih => intro x0 x1 x2; exact UX3_takeItem_40_ok ih  x0 x1 x2
def UX3_takeItem_17 (x0 : Nat) (s0 : Nat) (s1 : Int32) : qP Int32 :=
qb (pV 3 s0 6 (.int s1)) fun _ =>
qb (gI 3 x0 6) fun v1 =>
if v1 = (-1 : Int32) then (
qr (0 : Int32)) else (
qb (gI 3 x0 6) fun v2 =>
qb (FX3_form v2) fun v3 =>
WX3_takeItem_40 1000000 x0 v3 (0 : Int32))
set_option maxRecDepth 100000 in
set_option maxHeartbeats 4000000 in
theorem UX3_takeItem_17_ok {l : Launch} {g : qG} {d n : Nat} (x0 : Nat) (s0 : Nat) (s1 : Int32) : qS l g mX3_takeItem (d + 6) n 0 0 0 0 cvI 17 [(0, .ref x0)] [.int s1, .ref s0] (UX3_takeItem_17 x0 s0 s1) := by
  unfold UX3_takeItem_17
  refine s_put dX3_takeItem_17 fX3_31 rfl rfl ?_
  refine s_aload_n dX3_takeItem_20 rfl ?_
  refine s_gI dX3_takeItem_21 fX3_31 fun v1 => ?_
  refine s_iconst (v := -1) dX3_takeItem_24 (by decide) ?_
  refine s_icmp_ne (tgt := 30) dX3_takeItem_25 (by decide) (fun c1 => ?_) (fun c1 => ?_)
  · refine s_iconst (v := 0) dX3_takeItem_28 (by decide) ?_
    exact s_ireturn dX3_takeItem_29 rfl (by decide)
  · refine s_aload_n dX3_takeItem_30 rfl ?_
    refine s_gI dX3_takeItem_31 fX3_31 fun v2 => ?_
    refine s_staticR (as := [.int v2]) (rest := []) dX3_takeItem_34 sX3_104 (CX3_form _) (Nat.le_of_ble_eq_true rfl) ⟨Nat.le_refl _, Nat.le_refl _⟩ fun v3 => ?_
    refine s_astore_n (lv' := [(1, .ref v3), (0, .ref x0)]) dX3_takeItem_37 (by decide) rfl ?_
    refine s_iconst (v := 0) dX3_takeItem_38 (by decide) ?_
    refine s_istore_n (lv' := [(2, .int (0 : Int32)), (1, .ref v3), (0, .ref x0)]) dX3_takeItem_39 (by decide) rfl ?_
    refine s_locals [2, 1, 0] rfl ?_
    exact WX3_takeItem_40_ok  1000000 x0 v3 (0 : Int32)
def FX3_takeItem (x0 : Nat) : qP Int32 :=
qb (gI 3 x0 4) fun v1 =>
if v1 = (1 : Int32) then (
qb (qcl 3 x0) fun _ => qb (FX3_itemNamed x0) fun v2 =>
UX3_takeItem_17 x0 x0 v2) else (
UX3_takeItem_17 x0 x0 (-1 : Int32))
set_option maxRecDepth 100000 in
set_option maxHeartbeats 4000000 in
theorem FX3_takeItem_ok {l : Launch} {g : qG} {d n : Nat} (x0 : Nat) : qS l g mX3_takeItem (d + 6) n 0 0 0 0 cvI 0 [(0, .ref x0)] [] (FX3_takeItem x0) := by
  unfold FX3_takeItem
  refine s_aload_n dX3_takeItem_0 rfl ?_
  refine s_aload_n dX3_takeItem_1 rfl ?_
  refine s_gI dX3_takeItem_2 fX3_25 fun v1 => ?_
  refine s_iconst (v := 1) dX3_takeItem_5 (by decide) ?_
  refine s_icmp_ne (tgt := 16) dX3_takeItem_6 (by decide) (fun c1 => ?_) (fun c1 => ?_)
  · refine s_aload_n dX3_takeItem_9 rfl ?_
    refine s_virtI (as := []) (rest := [.ref x0]) dX3_takeItem_10 vX3_100 (CX3_itemNamed _) (Nat.le_of_ble_eq_true rfl) ⟨Nat.le_refl _, Nat.le_refl _⟩ fun v2 => ?_
    refine s_goto (tgt := 17) dX3_takeItem_13 (by decide) ?_
    exact UX3_takeItem_17_ok x0 x0 v2
  · refine s_iconst (v := -1) dX3_takeItem_16 (by decide) ?_
    exact UX3_takeItem_17_ok x0 x0 (-1 : Int32)
theorem CX3_takeItem {l : Launch} {g : qG} {d : Nat} (x0 : Nat) : qCt l g mX3_takeItem (d + 6) 0 0 cvI [.ref x0] (FX3_takeItem x0) := s_of pn_X3 (Nat.le_of_ble_eq_true rfl) fun n => FX3_takeItem_ok x0
def UX3_fault_7 (R : Nat → Int32 → qP Int32) (x0 : Nat) (x1 : Int32) : qP Int32 :=
qb (gI 3 x0 1) fun v1 =>
if v1 < x1 then (
qr (-1 : Int32)) else (
qb (qcl 3 x0) fun _ => qb (FX3_takeToken x0) fun v2 =>
qb (gI 3 x0 4) fun v3 =>
if v3 = 0 then (
qr (-1 : Int32)) else (
qb (qcl 3 x0) fun _ => qb (FX3_takeItem x0) fun v4 =>
if v4 = 0 then (
qb (gI 3 x0 3) fun v5 =>
qr v5) else (
R x0 (x1 + 1))))
set_option maxRecDepth 100000 in
set_option maxHeartbeats 4000000 in
theorem UX3_fault_7_ok {l : Launch} {g : qG} {d n : Nat} {R : Nat → Int32 → qP Int32} (hR : ∀ (x0 : Nat) (x1 : Int32), qS l g mX3_fault (d + 7) n 0 0 0 0 cvI 7 [(0, .ref x0), (1, .int x1)] [] (R x0 x1)) (x0 : Nat) (x1 : Int32) : qS l g mX3_fault (d + 7) n 0 0 0 0 cvI 7 [(0, .ref x0), (1, .int x1)] [] (UX3_fault_7 R x0 x1) := by
  unfold UX3_fault_7
  refine s_iload_n dX3_fault_7 rfl ?_
  refine s_aload_n dX3_fault_8 rfl ?_
  refine s_gI dX3_fault_9 fX3_15 fun v1 => ?_
  refine s_icmp_gt (tgt := 46) dX3_fault_12 (by decide) (fun c1 => ?_) (fun c1 => ?_)
  · refine s_iconst (v := -1) dX3_fault_46 (by decide) ?_
    exact s_ireturn dX3_fault_47 rfl rfl
  · refine s_aload_n dX3_fault_15 rfl ?_
    refine s_virtV (as := []) (rest := []) dX3_fault_16 vX3_51 (CX3_takeToken _) (Nat.le_of_ble_eq_true rfl) ⟨Nat.le_refl _, Nat.le_refl _⟩ fun v2 => ?_
    refine s_aload_n dX3_fault_19 rfl ?_
    refine s_gI dX3_fault_20 fX3_25 fun v3 => ?_
    refine s_if_ne (tgt := 28) dX3_fault_23 (by decide) (fun c2 => ?_) (fun c2 => ?_)
    · refine s_iconst (v := -1) dX3_fault_26 (by decide) ?_
      exact s_ireturn dX3_fault_27 rfl rfl
    · refine s_aload_n dX3_fault_28 rfl ?_
      refine s_virtI (as := []) (rest := []) dX3_fault_29 vX3_54 (CX3_takeItem _) (Nat.le_of_ble_eq_true rfl) ⟨Nat.le_refl _, Nat.le_refl _⟩ fun v4 => ?_
      refine s_if_ne (tgt := 40) dX3_fault_32 (by decide) (fun c3 => ?_) (fun c3 => ?_)
      · refine s_aload_n dX3_fault_35 rfl ?_
        refine s_gI dX3_fault_36 fX3_22 fun v5 => ?_
        exact s_ireturn dX3_fault_39 rfl rfl
      · refine s_iinc (lv' := [(1, .int (x1 + 1)), (0, .ref x0)]) dX3_fault_40 rfl (by decide) rfl ?_
        refine s_goto (tgt := 7) dX3_fault_43 (by decide) ?_
        refine s_locals [1, 0] rfl ?_
        exact hR x0 (x1 + 1)
def WX3_fault_7 : Nat → Nat → Int32 → qP Int32
  | 0 => fun _ _ => qfail
  | N + 1 => fun x0 x1 => UX3_fault_7 (WX3_fault_7  N)  x0 x1
theorem WX3_fault_7_ok {l : Launch} {g : qG} {d n : Nat} : ∀ (N : Nat) (x0 : Nat) (x1 : Int32), qS l g mX3_fault (d + 7) n 0 0 0 0 cvI 7 [(0, .ref x0), (1, .int x1)] [] (WX3_fault_7  N x0 x1) := by
  intro N
  induction N with
  | zero => intro x0 x1; exact s_fail
  | succ N ih => intro x0 x1; exact UX3_fault_7_ok ih  x0 x1
def FX3_fault (x0 : Nat) : qP Int32 :=
qb (pV 3 x0 2 (.int (0 : Int32))) fun _ =>
WX3_fault_7 1000000 x0 (0 : Int32)
set_option maxRecDepth 100000 in
set_option maxHeartbeats 4000000 in
theorem FX3_fault_ok {l : Launch} {g : qG} {d n : Nat} (x0 : Nat) : qS l g mX3_fault (d + 7) n 0 0 0 0 cvI 0 [(0, .ref x0)] [] (FX3_fault x0) := by
  unfold FX3_fault
  refine s_aload_n dX3_fault_0 rfl ?_
  refine s_iconst (v := 0) dX3_fault_1 (by decide) ?_
  refine s_put dX3_fault_2 fX3_19 rfl rfl ?_
  refine s_iconst (v := 0) dX3_fault_5 (by decide) ?_
  refine s_istore_n (lv' := [(1, .int (0 : Int32)), (0, .ref x0)]) dX3_fault_6 (by decide) rfl ?_
  refine s_locals [1, 0] rfl ?_
  exact WX3_fault_7_ok  1000000 x0 (0 : Int32)
theorem CX3_fault {l : Launch} {g : qG} {d : Nat} (x0 : Nat) : qCt l g mX3_fault (d + 7) 0 0 cvI [.ref x0] (FX3_fault x0) := s_of pn_X3 (Nat.le_of_ble_eq_true rfl) fun n => FX3_fault_ok x0
def UX3_tellSigns_7 (R : Nat → Nat → Int32 → Int32 → qP Int32) (x0 : Nat) (x1 : Nat) (x2 : Int32) (x3 : Int32) : qP Int32 :=
qb (gI 3 x0 10) fun v1 =>
if v1 ≤ x3 then (
qr x2) else (
if x2 < 0 then (
qr x2) else (
qb (gR 3 x0 0) fun v2 =>
qb (aI v2 x3) fun v3 =>
qb (FX3_signOf v3) fun v4 =>
qb (gI 3 x0 6) fun v5 =>
if v5 = (4 : Int32) then (
qb (gI 3 x0 7) fun v6 =>
qb (qcl 0 x1) fun _ => qb (FX0_addLawSign x1 v6 v4) fun v7 =>
R x0 x1 v7 (x3 + 1)) else (
qb (qcl 0 x1) fun _ => qb (FX0_addSign x1 v4) fun v8 =>
R x0 x1 v8 (x3 + 1))))
set_option maxRecDepth 100000 in
set_option maxHeartbeats 4000000 in
theorem UX3_tellSigns_7_ok {l : Launch} {g : qG} {d n : Nat} {R : Nat → Nat → Int32 → Int32 → qP Int32} (hR : ∀ (x0 : Nat) (x1 : Nat) (x2 : Int32) (x3 : Int32), qS l g mX3_tellSigns (d + 2) n 0 0 0 0 cvI 7 [(0, .ref x0), (1, .ref x1), (2, .int x2), (3, .int x3)] [] (R x0 x1 x2 x3)) (x0 : Nat) (x1 : Nat) (x2 : Int32) (x3 : Int32) : qS l g mX3_tellSigns (d + 2) n 0 0 0 0 cvI 7 [(0, .ref x0), (1, .ref x1), (2, .int x2), (3, .int x3)] [] (UX3_tellSigns_7 R x0 x1 x2 x3) := by
  unfold UX3_tellSigns_7
  refine s_iload_n dX3_tellSigns_7 rfl ?_
  refine s_aload_n dX3_tellSigns_8 rfl ?_
  refine s_gI dX3_tellSigns_9 fX3_43 fun v1 => ?_
  refine s_icmp_ge (tgt := 64) dX3_tellSigns_12 (by decide) (fun c1 => ?_) (fun c1 => ?_)
  · refine s_iload_n dX3_tellSigns_64 rfl ?_
    exact s_ireturn dX3_tellSigns_65 rfl rfl
  · refine s_iload_n dX3_tellSigns_15 rfl ?_
    refine s_if_lt (tgt := 64) dX3_tellSigns_16 (by decide) (fun c2 => ?_) (fun c2 => ?_)
    · refine s_iload_n dX3_tellSigns_64 rfl ?_
      exact s_ireturn dX3_tellSigns_65 rfl rfl
    · refine s_aload_n dX3_tellSigns_19 rfl ?_
      refine s_gR dX3_tellSigns_20 fX3_11 fun v2 => ?_
      refine s_iload_n dX3_tellSigns_23 rfl ?_
      refine s_aI dX3_tellSigns_24 fun v3 => ?_
      refine s_staticI (as := [.int v3]) (rest := []) dX3_tellSigns_25 sX3_89 (CX3_signOf _) (Nat.le_of_ble_eq_true rfl) ⟨Nat.le_refl _, Nat.le_refl _⟩ fun v4 => ?_
      refine s_istore (lv' := [(4, .int v4), (0, .ref x0), (1, .ref x1), (2, .int x2), (3, .int x3)]) dX3_tellSigns_28 (by decide) rfl ?_
      refine s_aload_n dX3_tellSigns_30 rfl ?_
      refine s_gI dX3_tellSigns_31 fX3_31 fun v5 => ?_
      refine s_iconst (v := 4) dX3_tellSigns_34 (by decide) ?_
      refine s_icmp_ne (tgt := 51) dX3_tellSigns_35 (by decide) (fun c3 => ?_) (fun c3 => ?_)
      · refine s_aload_n dX3_tellSigns_38 rfl ?_
        refine s_aload_n dX3_tellSigns_39 rfl ?_
        refine s_gI dX3_tellSigns_40 fX3_34 fun v6 => ?_
        refine s_iload dX3_tellSigns_43 rfl ?_
        refine s_virtI (as := [.int v6, .int v4]) (rest := []) dX3_tellSigns_45 vX3_92 (CX0_addLawSign _ _ _) (Nat.le_of_ble_eq_true rfl) ⟨Nat.le_refl _, Nat.le_refl _⟩ fun v7 => ?_
        refine s_goto (tgt := 57) dX3_tellSigns_48 (by decide) ?_
        refine s_istore_n (lv' := [(2, .int v7), (4, .int v4), (0, .ref x0), (1, .ref x1), (3, .int x3)]) dX3_tellSigns_57 (by decide) rfl ?_
        refine s_iinc (lv' := [(3, .int (x3 + 1)), (2, .int v7), (4, .int v4), (0, .ref x0), (1, .ref x1)]) dX3_tellSigns_58 rfl (by decide) rfl ?_
        refine s_goto (tgt := 7) dX3_tellSigns_61 (by decide) ?_
        refine s_locals [3, 4, 1, 0] rfl ?_
        exact hR x0 x1 v7 (x3 + 1)
      · refine s_aload_n dX3_tellSigns_51 rfl ?_
        refine s_iload dX3_tellSigns_52 rfl ?_
        refine s_virtI (as := [.int v4]) (rest := []) dX3_tellSigns_54 vX3_97 (CX0_addSign _ _) (Nat.le_of_ble_eq_true rfl) ⟨Nat.le_refl _, Nat.le_refl _⟩ fun v8 => ?_
        refine s_istore_n (lv' := [(2, .int v8), (4, .int v4), (0, .ref x0), (1, .ref x1), (3, .int x3)]) dX3_tellSigns_57 (by decide) rfl ?_
        refine s_iinc (lv' := [(3, .int (x3 + 1)), (2, .int v8), (4, .int v4), (0, .ref x0), (1, .ref x1)]) dX3_tellSigns_58 rfl (by decide) rfl ?_
        refine s_goto (tgt := 7) dX3_tellSigns_61 (by decide) ?_
        refine s_locals [3, 4, 1, 0] rfl ?_
        exact hR x0 x1 v8 (x3 + 1)
def WX3_tellSigns_7 : Nat → Nat → Nat → Int32 → Int32 → qP Int32
  | 0 => fun _ _ _ _ => qfail
  | N + 1 => fun x0 x1 x2 x3 => UX3_tellSigns_7 (WX3_tellSigns_7  N)  x0 x1 x2 x3
theorem WX3_tellSigns_7_ok {l : Launch} {g : qG} {d n : Nat} : ∀ (N : Nat) (x0 : Nat) (x1 : Nat) (x2 : Int32) (x3 : Int32), qS l g mX3_tellSigns (d + 2) n 0 0 0 0 cvI 7 [(0, .ref x0), (1, .ref x1), (2, .int x2), (3, .int x3)] [] (WX3_tellSigns_7  N x0 x1 x2 x3) := by
  intro N
  induction N with
  | zero => intro x0 x1 x2 x3; exact s_fail
  | succ N ih => intro x0 x1 x2 x3; exact UX3_tellSigns_7_ok ih  x0 x1 x2 x3
def FX3_tellSigns (x0 : Nat) (x1 : Nat) : qP Int32 :=
qb (gI 3 x0 9) fun v1 =>
WX3_tellSigns_7 1000000 x0 x1 (0 : Int32) v1
set_option maxRecDepth 100000 in
set_option maxHeartbeats 4000000 in
theorem FX3_tellSigns_ok {l : Launch} {g : qG} {d n : Nat} (x0 : Nat) (x1 : Nat) : qS l g mX3_tellSigns (d + 2) n 0 0 0 0 cvI 0 [(0, .ref x0), (1, .ref x1)] [] (FX3_tellSigns x0 x1) := by
  unfold FX3_tellSigns
  refine s_iconst (v := 0) dX3_tellSigns_0 (by decide) ?_
  refine s_istore_n (lv' := [(2, .int (0 : Int32)), (0, .ref x0), (1, .ref x1)]) dX3_tellSigns_1 (by decide) rfl ?_
  refine s_aload_n dX3_tellSigns_2 rfl ?_
  refine s_gI dX3_tellSigns_3 fX3_40 fun v1 => ?_
  refine s_istore_n (lv' := [(3, .int v1), (2, .int (0 : Int32)), (0, .ref x0), (1, .ref x1)]) dX3_tellSigns_6 (by decide) rfl ?_
  refine s_locals [2, 3, 1, 0] rfl ?_
  exact WX3_tellSigns_7_ok  1000000 x0 x1 (0 : Int32) v1
theorem CX3_tellSigns {l : Launch} {g : qG} {d : Nat} (x0 : Nat) (x1 : Nat) : qCt l g mX3_tellSigns (d + 2) 0 0 cvI [.ref x0, .ref x1] (FX3_tellSigns x0 x1) := s_of pn_X3 (Nat.le_of_ble_eq_true rfl) fun n => FX3_tellSigns_ok x0 x1
def FX3_tellItem (x0 : Nat) (x1 : Nat) : qP Int32 :=
qb (gI 3 x0 6) fun v1 =>
if v1 = 0 then (
qb (gI 3 x0 7) fun v12 =>
qb (gI 3 x0 8) fun v13 =>
qb (qcl 2 x1) fun _ => qb (FX2_addPlot x1 v12 v13) fun v14 =>
qr v14) else (
if v1 = 1 then (
qb (gI 3 x0 7) fun v10 =>
qb (qcl 2 x1) fun _ => qb (FX2_addShirt x1 v10) fun v11 =>
qr v11) else (
if v1 = 2 then (
qb (gR 2 x1 10) fun v7 =>
qb (gI 3 x0 7) fun v8 =>
qb (qcl 8 v7) fun _ => qb (FX8_add v7 (0 : Int32) v8) fun v9 =>
qr v9) else (
if v1 = 3 then (
qb (gR 2 x1 10) fun v4 =>
qb (gI 3 x0 7) fun v5 =>
qb (qcl 8 v4) fun _ => qb (FX8_add v4 (1 : Int32) v5) fun v6 =>
qr v6) else (
qb (gR 2 x1 9) fun v2 =>
qb (qcl 3 x0) fun _ => qb (FX3_tellSigns x0 v2) fun v3 =>
qr v3))))
set_option maxRecDepth 100000 in
set_option maxHeartbeats 4000000 in
theorem FX3_tellItem_ok {l : Launch} {g : qG} {d n : Nat} (x0 : Nat) (x1 : Nat) : qS l g mX3_tellItem (d + 3) n 0 0 0 0 cvI 0 [(0, .ref x0), (1, .ref x1)] [] (FX3_tellItem x0 x1) := by
  unfold FX3_tellItem
  refine s_aload_n dX3_tellItem_0 rfl ?_
  refine s_gI dX3_tellItem_1 fX3_31 fun v1 => ?_
  refine s_case (fun c1 => ?_) (fun c1 => ?_)
  · refine s_tableIn (y := 0) (tgt := 36) dX3_tellItem_4 c1 (by decide) (by decide) rfl (by decide) ?_
    refine s_aload_n dX3_tellItem_36 rfl ?_
    refine s_aload_n dX3_tellItem_37 rfl ?_
    refine s_gI dX3_tellItem_38 fX3_34 fun v12 => ?_
    refine s_aload_n dX3_tellItem_41 rfl ?_
    refine s_gI dX3_tellItem_42 fX3_37 fun v13 => ?_
    refine s_virtI (as := [.int v12, .int v13]) (rest := []) dX3_tellItem_45 vX3_62 (CX2_addPlot _ _ _) (Nat.le_of_ble_eq_true rfl) ⟨Nat.le_refl _, Nat.le_refl _⟩ fun v14 => ?_
    exact s_ireturn dX3_tellItem_48 rfl rfl
  · refine s_case (fun c2 => ?_) (fun c2 => ?_)
    · refine s_tableIn (y := 1) (tgt := 49) dX3_tellItem_4 c2 (by decide) (by decide) rfl (by decide) ?_
      refine s_aload_n dX3_tellItem_49 rfl ?_
      refine s_aload_n dX3_tellItem_50 rfl ?_
      refine s_gI dX3_tellItem_51 fX3_34 fun v10 => ?_
      refine s_virtI (as := [.int v10]) (rest := []) dX3_tellItem_54 vX3_68 (CX2_addShirt _ _) (Nat.le_of_ble_eq_true rfl) ⟨Nat.le_refl _, Nat.le_refl _⟩ fun v11 => ?_
      exact s_ireturn dX3_tellItem_57 rfl rfl
    · refine s_case (fun c3 => ?_) (fun c3 => ?_)
      · refine s_tableIn (y := 2) (tgt := 58) dX3_tellItem_4 c3 (by decide) (by decide) rfl (by decide) ?_
        refine s_aload_n dX3_tellItem_58 rfl ?_
        refine s_gR dX3_tellItem_59 fX3_72 fun v7 => ?_
        refine s_iconst (v := 0) dX3_tellItem_62 (by decide) ?_
        refine s_aload_n dX3_tellItem_63 rfl ?_
        refine s_gI dX3_tellItem_64 fX3_34 fun v8 => ?_
        refine s_virtI (as := [.int (0 : Int32), .int v8]) (rest := []) dX3_tellItem_67 vX3_78 (CX8_add _ _ _) (Nat.le_of_ble_eq_true rfl) ⟨Nat.le_refl _, Nat.le_refl _⟩ fun v9 => ?_
        exact s_ireturn dX3_tellItem_70 rfl rfl
      · refine s_case (fun c4 => ?_) (fun c4 => ?_)
        · refine s_tableIn (y := 3) (tgt := 71) dX3_tellItem_4 c4 (by decide) (by decide) rfl (by decide) ?_
          refine s_aload_n dX3_tellItem_71 rfl ?_
          refine s_gR dX3_tellItem_72 fX3_72 fun v4 => ?_
          refine s_iconst (v := 1) dX3_tellItem_75 (by decide) ?_
          refine s_aload_n dX3_tellItem_76 rfl ?_
          refine s_gI dX3_tellItem_77 fX3_34 fun v5 => ?_
          refine s_virtI (as := [.int (1 : Int32), .int v5]) (rest := []) dX3_tellItem_80 vX3_78 (CX8_add _ _ _) (Nat.le_of_ble_eq_true rfl) ⟨Nat.le_refl _, Nat.le_refl _⟩ fun v6 => ?_
          exact s_ireturn dX3_tellItem_83 rfl rfl
        · refine s_tableOut (tgt := 84) dX3_tellItem_4 (by
            have e : ¬ v1.toInt = 0 ∧ ¬ v1.toInt = 1 ∧ ¬ v1.toInt = 2 ∧ ¬ v1.toInt = 3 := ⟨lv_neT c1 (by decide), lv_neT c2 (by decide), lv_neT c3 (by decide), lv_neT c4 (by decide)⟩
            omega) (by decide) ?_
          refine s_aload_n dX3_tellItem_84 rfl ?_
          refine s_aload_n dX3_tellItem_85 rfl ?_
          refine s_gR dX3_tellItem_86 fX3_81 fun v2 => ?_
          refine s_virtI (as := [.ref v2]) (rest := []) dX3_tellItem_89 vX3_85 (CX3_tellSigns _ _) (Nat.le_of_ble_eq_true rfl) ⟨Nat.le_refl _, Nat.le_refl _⟩ fun v3 => ?_
          exact s_ireturn dX3_tellItem_92 rfl rfl
theorem CX3_tellItem {l : Launch} {g : qG} {d : Nat} (x0 : Nat) (x1 : Nat) : qCt l g mX3_tellItem (d + 3) 0 0 cvI [.ref x0, .ref x1] (FX3_tellItem x0 x1) := s_of pn_X3 (Nat.le_of_ble_eq_true rfl) fun n => FX3_tellItem_ok x0 x1
def UX3_tell_12 (R : Nat → Nat → Int32 → qP Int32) (x0 : Nat) (x1 : Nat) (x2 : Int32) : qP Int32 :=
qb (gI 3 x0 1) fun v1 =>
if v1 < x2 then (
qr (-1 : Int32)) else (
qb (qcl 3 x0) fun _ => qb (FX3_takeToken x0) fun v2 =>
qb (gI 3 x0 4) fun v3 =>
if v3 = 0 then (
qr (-1 : Int32)) else (
qb (qcl 3 x0) fun _ => qb (FX3_takeItem x0) fun v4 =>
if v4 = 0 then (
qr (-1 : Int32)) else (
qb (qcl 3 x0) fun _ => qb (FX3_tellItem x0 x1) fun v5 =>
if 0 ≤ v5 then (
qb (gI 3 x0 11) fun v6 =>
qb (pV 3 x0 11 (.int (v6 + (1 : Int32)))) fun _ =>
R x0 x1 (x2 + 1)) else (
qb (gI 3 x0 11) fun v7 =>
qr v7))))
set_option maxRecDepth 100000 in
set_option maxHeartbeats 4000000 in
theorem UX3_tell_12_ok {l : Launch} {g : qG} {d n : Nat} {R : Nat → Nat → Int32 → qP Int32} (hR : ∀ (x0 : Nat) (x1 : Nat) (x2 : Int32), qS l g mX3_tell (d + 7) n 0 0 0 0 cvI 12 [(0, .ref x0), (1, .ref x1), (2, .int x2)] [] (R x0 x1 x2)) (x0 : Nat) (x1 : Nat) (x2 : Int32) : qS l g mX3_tell (d + 7) n 0 0 0 0 cvI 12 [(0, .ref x0), (1, .ref x1), (2, .int x2)] [] (UX3_tell_12 R x0 x1 x2) := by
  unfold UX3_tell_12
  refine s_iload_n dX3_tell_12 rfl ?_
  refine s_aload_n dX3_tell_13 rfl ?_
  refine s_gI dX3_tell_14 fX3_15 fun v1 => ?_
  refine s_icmp_gt (tgt := 69) dX3_tell_17 (by decide) (fun c1 => ?_) (fun c1 => ?_)
  · refine s_iconst (v := -1) dX3_tell_69 (by decide) ?_
    exact s_ireturn dX3_tell_70 rfl rfl
  · refine s_aload_n dX3_tell_20 rfl ?_
    refine s_virtV (as := []) (rest := []) dX3_tell_21 vX3_51 (CX3_takeToken _) (Nat.le_of_ble_eq_true rfl) ⟨Nat.le_refl _, Nat.le_refl _⟩ fun v2 => ?_
    refine s_aload_n dX3_tell_24 rfl ?_
    refine s_gI dX3_tell_25 fX3_25 fun v3 => ?_
    refine s_if_eq (tgt := 38) dX3_tell_28 (by decide) (fun c2 => ?_) (fun c2 => ?_)
    · refine s_iconst (v := -1) dX3_tell_38 (by decide) ?_
      exact s_ireturn dX3_tell_39 rfl rfl
    · refine s_aload_n dX3_tell_31 rfl ?_
      refine s_virtI (as := []) (rest := []) dX3_tell_32 vX3_54 (CX3_takeItem _) (Nat.le_of_ble_eq_true rfl) ⟨Nat.le_refl _, Nat.le_refl _⟩ fun v4 => ?_
      refine s_if_ne (tgt := 40) dX3_tell_35 (by decide) (fun c3 => ?_) (fun c3 => ?_)
      · refine s_iconst (v := -1) dX3_tell_38 (by decide) ?_
        exact s_ireturn dX3_tell_39 rfl rfl
      · refine s_aload_n dX3_tell_40 rfl ?_
        refine s_aload_n dX3_tell_41 rfl ?_
        refine s_virtI (as := [.ref x1]) (rest := []) dX3_tell_42 vX3_58 (CX3_tellItem _ _) (Nat.le_of_ble_eq_true rfl) ⟨Nat.le_refl _, Nat.le_refl _⟩ fun v5 => ?_
        refine s_if_ge (tgt := 53) dX3_tell_45 (by decide) (fun c4 => ?_) (fun c4 => ?_)
        · refine s_aload_n dX3_tell_53 rfl ?_
          refine s_dup dX3_tell_54 rfl ?_
          refine s_gI dX3_tell_55 fX3_46 fun v6 => ?_
          refine s_iconst (v := 1) dX3_tell_58 (by decide) ?_
          refine s_iadd dX3_tell_59 ?_
          refine s_put dX3_tell_60 fX3_46 rfl rfl ?_
          refine s_iinc (lv' := [(2, .int (x2 + 1)), (0, .ref x0), (1, .ref x1)]) dX3_tell_63 rfl (by decide) rfl ?_
          refine s_goto (tgt := 12) dX3_tell_66 (by decide) ?_
          refine s_locals [1, 2, 0] rfl ?_
          exact hR x0 x1 (x2 + 1)
        · refine s_aload_n dX3_tell_48 rfl ?_
          refine s_gI dX3_tell_49 fX3_46 fun v7 => ?_
          exact s_ireturn dX3_tell_52 rfl rfl
def WX3_tell_12 : Nat → Nat → Nat → Int32 → qP Int32
  | 0 => fun _ _ _ => qfail
  | N + 1 => fun x0 x1 x2 => UX3_tell_12 (WX3_tell_12  N)  x0 x1 x2
theorem WX3_tell_12_ok {l : Launch} {g : qG} {d n : Nat} : ∀ (N : Nat) (x0 : Nat) (x1 : Nat) (x2 : Int32), qS l g mX3_tell (d + 7) n 0 0 0 0 cvI 12 [(0, .ref x0), (1, .ref x1), (2, .int x2)] [] (WX3_tell_12  N x0 x1 x2) := by
  intro N
  induction N with
  | zero => intro x0 x1 x2; exact s_fail
  | succ N ih => intro x0 x1 x2; exact UX3_tell_12_ok ih  x0 x1 x2
def FX3_tell (x0 : Nat) (x1 : Nat) : qP Int32 :=
qb (pV 3 x0 2 (.int (0 : Int32))) fun _ =>
qb (pV 3 x0 11 (.int (0 : Int32))) fun _ =>
WX3_tell_12 1000000 x0 x1 (0 : Int32)
set_option maxRecDepth 100000 in
set_option maxHeartbeats 4000000 in
theorem FX3_tell_ok {l : Launch} {g : qG} {d n : Nat} (x0 : Nat) (x1 : Nat) : qS l g mX3_tell (d + 7) n 0 0 0 0 cvI 0 [(0, .ref x0), (1, .ref x1)] [] (FX3_tell x0 x1) := by
  unfold FX3_tell
  refine s_aload_n dX3_tell_0 rfl ?_
  refine s_iconst (v := 0) dX3_tell_1 (by decide) ?_
  refine s_put dX3_tell_2 fX3_19 rfl rfl ?_
  refine s_aload_n dX3_tell_5 rfl ?_
  refine s_iconst (v := 0) dX3_tell_6 (by decide) ?_
  refine s_put dX3_tell_7 fX3_46 rfl rfl ?_
  refine s_iconst (v := 0) dX3_tell_10 (by decide) ?_
  refine s_istore_n (lv' := [(2, .int (0 : Int32)), (0, .ref x0), (1, .ref x1)]) dX3_tell_11 (by decide) rfl ?_
  refine s_locals [1, 2, 0] rfl ?_
  exact WX3_tell_12_ok  1000000 x0 x1 (0 : Int32)
theorem CX3_tell {l : Launch} {g : qG} {d : Nat} (x0 : Nat) (x1 : Nat) : qCt l g mX3_tell (d + 7) 0 0 cvI [.ref x0, .ref x1] (FX3_tell x0 x1) := s_of pn_X3 (Nat.le_of_ble_eq_true rfl) fun n => FX3_tell_ok x0 x1

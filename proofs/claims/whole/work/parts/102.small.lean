def UJ7_fill_53178_5 (R : Nat → Int32 → Int32 → Int32 → qP Unit) (x0 : Nat) (x1 : Int32) (x2 : Int32) (x3 : Int32) : qP Unit :=
if x3 ≤ x2 then (
qr ()) else (
qb (sI x0 x2 x1) fun _ =>
R x0 x1 (x2 + 1) x3)
set_option maxRecDepth 100000 in
set_option maxHeartbeats 4000000 in
theorem UJ7_fill_53178_5_ok {l : Launch} {g : qG} {d n : Nat} {R : Nat → Int32 → Int32 → Int32 → qP Unit} (hR : ∀ (x0 : Nat) (x1 : Int32) (x2 : Int32) (x3 : Int32), qS l g mJ7_fill_53178 d n 0 0 0 0 cvV 5 [(0, .ref x0), (1, .int x1), (2, .int x2), (3, .int x3)] [] (R x0 x1 x2 x3)) (x0 : Nat) (x1 : Int32) (x2 : Int32) (x3 : Int32) : qS l g mJ7_fill_53178 d n 0 0 0 0 cvV 5 [(0, .ref x0), (1, .int x1), (2, .int x2), (3, .int x3)] [] (UJ7_fill_53178_5 R x0 x1 x2 x3) := by
  unfold UJ7_fill_53178_5
  refine s_iload_n dJ7_fill_53178_5 rfl ?_
  refine s_iload_n dJ7_fill_53178_6 rfl ?_
  refine s_icmp_ge (tgt := 20) dJ7_fill_53178_7 (by decide) (fun c1 => ?_) (fun c1 => ?_)
  · exact s_return dJ7_fill_53178_20 rfl
  · refine s_aload_n dJ7_fill_53178_10 rfl ?_
    refine s_iload_n dJ7_fill_53178_11 rfl ?_
    refine s_iload_n dJ7_fill_53178_12 rfl ?_
    refine s_sI dJ7_fill_53178_13 ?_
    refine s_iinc (lv' := [(2, .int (x2 + 1)), (0, .ref x0), (1, .int x1), (3, .int x3)]) dJ7_fill_53178_14 rfl (by decide) rfl ?_
    refine s_goto (tgt := 5) dJ7_fill_53178_17 (by decide) ?_
    refine s_locals [1, 2, 0, 3] rfl ?_
    exact hR x0 x1 (x2 + 1) x3
def WJ7_fill_53178_5 : Nat → Nat → Int32 → Int32 → Int32 → qP Unit
  | 0 => fun _ _ _ _ => qfail
  | N + 1 => fun x0 x1 x2 x3 => UJ7_fill_53178_5 (WJ7_fill_53178_5  N)  x0 x1 x2 x3
theorem WJ7_fill_53178_5_ok {l : Launch} {g : qG} {d n : Nat} : ∀ (N : Nat) (x0 : Nat) (x1 : Int32) (x2 : Int32) (x3 : Int32), qS l g mJ7_fill_53178 d n 0 0 0 0 cvV 5 [(0, .ref x0), (1, .int x1), (2, .int x2), (3, .int x3)] [] (WJ7_fill_53178_5  N x0 x1 x2 x3) := by
  intro N
  induction N with
  | zero => intro x0 x1 x2 x3; exact s_fail
  | succ N ih => intro x0 x1 x2 x3; exact UJ7_fill_53178_5_ok ih  x0 x1 x2 x3
def FJ7_fill_53178 (x0 : Nat) (x1 : Int32) : qP Unit :=
qb (aL x0) fun v1 =>
WJ7_fill_53178_5 1000000 x0 x1 (0 : Int32) v1
set_option maxRecDepth 100000 in
set_option maxHeartbeats 4000000 in
theorem FJ7_fill_53178_ok {l : Launch} {g : qG} {d n : Nat} (x0 : Nat) (x1 : Int32) : qS l g mJ7_fill_53178 d n 0 0 0 0 cvV 0 [(0, .ref x0), (1, .int x1)] [] (FJ7_fill_53178 x0 x1) := by
  unfold FJ7_fill_53178
  refine s_iconst (v := 0) dJ7_fill_53178_0 (by decide) ?_
  refine s_istore_n (lv' := [(2, .int (0 : Int32)), (0, .ref x0), (1, .int x1)]) dJ7_fill_53178_1 (by decide) rfl ?_
  refine s_aload_n dJ7_fill_53178_2 rfl ?_
  refine s_aL dJ7_fill_53178_3 fun v1 => ?_
  refine s_istore_n (lv' := [(3, .int v1), (2, .int (0 : Int32)), (0, .ref x0), (1, .int x1)]) dJ7_fill_53178_4 (by decide) rfl ?_
  refine s_locals [2, 3, 1, 0] rfl ?_
  exact WJ7_fill_53178_5_ok  1000000 x0 x1 (0 : Int32) v1
theorem CJ7_fill_53178 {l : Launch} {g : qG} {d : Nat} (x0 : Nat) (x1 : Int32) : qCt l g mJ7_fill_53178 d 0 0 cvV [.ref x0, .int x1] (FJ7_fill_53178 x0 x1) := s_of pn_J7 (Nat.le_of_ble_eq_true rfl) fun n => FJ7_fill_53178_ok x0 x1
def FX11_isSet (x0 : Int32) (x1 : Int32) : qP Int32 :=
if ((x0 >>> (x1 &&& 31)) &&& (1 : Int32)) = (1 : Int32) then (
qr (1 : Int32)) else (
qr (0 : Int32))
set_option maxRecDepth 100000 in
set_option maxHeartbeats 4000000 in
theorem FX11_isSet_ok {l : Launch} {g : qG} {d n : Nat} (x0 : Int32) (x1 : Int32) : qS l g mX11_isSet d n 0 0 0 0 cvI 0 [(0, .int x0), (1, .int x1)] [] (FX11_isSet x0 x1) := by
  unfold FX11_isSet
  refine s_iload_n dX11_isSet_0 rfl ?_
  refine s_iload_n dX11_isSet_1 rfl ?_
  refine s_ishr dX11_isSet_2 ?_
  refine s_iconst (v := 1) dX11_isSet_3 (by decide) ?_
  refine s_iand dX11_isSet_4 ?_
  refine s_iconst (v := 1) dX11_isSet_5 (by decide) ?_
  refine s_icmp_ne (tgt := 13) dX11_isSet_6 (by decide) (fun c1 => ?_) (fun c1 => ?_)
  · refine s_iconst (v := 1) dX11_isSet_9 (by decide) ?_
    refine s_goto (tgt := 14) dX11_isSet_10 (by decide) ?_
    exact s_ireturn dX11_isSet_14 rfl (by decide)
  · refine s_iconst (v := 0) dX11_isSet_13 (by decide) ?_
    exact s_ireturn dX11_isSet_14 rfl (by decide)
theorem CX11_isSet {l : Launch} {g : qG} {d : Nat} (x0 : Int32) (x1 : Int32) : qCt l g mX11_isSet d 0 0 cvI [.int x0, .int x1] (FX11_isSet x0 x1) := s_of pn_X11 (Nat.le_of_ble_eq_true rfl) fun n => FX11_isSet_ok x0 x1
def FJ6_bitCount_0f7a4 (x0 : Int32) : qP Int32 :=
qr ((((((((x0 - ((x0.toUInt32 >>> ((1 : Int32).toUInt32 &&& Int32.toUInt32 31)).toInt32 &&& (1431655765 : Int32))) &&& (858993459 : Int32)) + (((x0 - ((x0.toUInt32 >>> ((1 : Int32).toUInt32 &&& Int32.toUInt32 31)).toInt32 &&& (1431655765 : Int32))).toUInt32 >>> ((2 : Int32).toUInt32 &&& Int32.toUInt32 31)).toInt32 &&& (858993459 : Int32))) + ((((x0 - ((x0.toUInt32 >>> ((1 : Int32).toUInt32 &&& Int32.toUInt32 31)).toInt32 &&& (1431655765 : Int32))) &&& (858993459 : Int32)) + (((x0 - ((x0.toUInt32 >>> ((1 : Int32).toUInt32 &&& Int32.toUInt32 31)).toInt32 &&& (1431655765 : Int32))).toUInt32 >>> ((2 : Int32).toUInt32 &&& Int32.toUInt32 31)).toInt32 &&& (858993459 : Int32))).toUInt32 >>> ((4 : Int32).toUInt32 &&& Int32.toUInt32 31)).toInt32) &&& (252645135 : Int32)) + ((((((x0 - ((x0.toUInt32 >>> ((1 : Int32).toUInt32 &&& Int32.toUInt32 31)).toInt32 &&& (1431655765 : Int32))) &&& (858993459 : Int32)) + (((x0 - ((x0.toUInt32 >>> ((1 : Int32).toUInt32 &&& Int32.toUInt32 31)).toInt32 &&& (1431655765 : Int32))).toUInt32 >>> ((2 : Int32).toUInt32 &&& Int32.toUInt32 31)).toInt32 &&& (858993459 : Int32))) + ((((x0 - ((x0.toUInt32 >>> ((1 : Int32).toUInt32 &&& Int32.toUInt32 31)).toInt32 &&& (1431655765 : Int32))) &&& (858993459 : Int32)) + (((x0 - ((x0.toUInt32 >>> ((1 : Int32).toUInt32 &&& Int32.toUInt32 31)).toInt32 &&& (1431655765 : Int32))).toUInt32 >>> ((2 : Int32).toUInt32 &&& Int32.toUInt32 31)).toInt32 &&& (858993459 : Int32))).toUInt32 >>> ((4 : Int32).toUInt32 &&& Int32.toUInt32 31)).toInt32) &&& (252645135 : Int32)).toUInt32 >>> ((8 : Int32).toUInt32 &&& Int32.toUInt32 31)).toInt32) + (((((((x0 - ((x0.toUInt32 >>> ((1 : Int32).toUInt32 &&& Int32.toUInt32 31)).toInt32 &&& (1431655765 : Int32))) &&& (858993459 : Int32)) + (((x0 - ((x0.toUInt32 >>> ((1 : Int32).toUInt32 &&& Int32.toUInt32 31)).toInt32 &&& (1431655765 : Int32))).toUInt32 >>> ((2 : Int32).toUInt32 &&& Int32.toUInt32 31)).toInt32 &&& (858993459 : Int32))) + ((((x0 - ((x0.toUInt32 >>> ((1 : Int32).toUInt32 &&& Int32.toUInt32 31)).toInt32 &&& (1431655765 : Int32))) &&& (858993459 : Int32)) + (((x0 - ((x0.toUInt32 >>> ((1 : Int32).toUInt32 &&& Int32.toUInt32 31)).toInt32 &&& (1431655765 : Int32))).toUInt32 >>> ((2 : Int32).toUInt32 &&& Int32.toUInt32 31)).toInt32 &&& (858993459 : Int32))).toUInt32 >>> ((4 : Int32).toUInt32 &&& Int32.toUInt32 31)).toInt32) &&& (252645135 : Int32)) + ((((((x0 - ((x0.toUInt32 >>> ((1 : Int32).toUInt32 &&& Int32.toUInt32 31)).toInt32 &&& (1431655765 : Int32))) &&& (858993459 : Int32)) + (((x0 - ((x0.toUInt32 >>> ((1 : Int32).toUInt32 &&& Int32.toUInt32 31)).toInt32 &&& (1431655765 : Int32))).toUInt32 >>> ((2 : Int32).toUInt32 &&& Int32.toUInt32 31)).toInt32 &&& (858993459 : Int32))) + ((((x0 - ((x0.toUInt32 >>> ((1 : Int32).toUInt32 &&& Int32.toUInt32 31)).toInt32 &&& (1431655765 : Int32))) &&& (858993459 : Int32)) + (((x0 - ((x0.toUInt32 >>> ((1 : Int32).toUInt32 &&& Int32.toUInt32 31)).toInt32 &&& (1431655765 : Int32))).toUInt32 >>> ((2 : Int32).toUInt32 &&& Int32.toUInt32 31)).toInt32 &&& (858993459 : Int32))).toUInt32 >>> ((4 : Int32).toUInt32 &&& Int32.toUInt32 31)).toInt32) &&& (252645135 : Int32)).toUInt32 >>> ((8 : Int32).toUInt32 &&& Int32.toUInt32 31)).toInt32).toUInt32 >>> ((16 : Int32).toUInt32 &&& Int32.toUInt32 31)).toInt32) &&& (63 : Int32))
set_option maxRecDepth 100000 in
set_option maxHeartbeats 4000000 in
theorem FJ6_bitCount_0f7a4_ok {l : Launch} {g : qG} {d n : Nat} (x0 : Int32) : qS l g mJ6_bitCount_0f7a4 d n 0 0 0 0 cvI 0 [(0, .int x0)] [] (FJ6_bitCount_0f7a4 x0) := by
  unfold FJ6_bitCount_0f7a4
  refine s_iload_n dJ6_bitCount_0f7a4_0 rfl ?_
  refine s_iload_n dJ6_bitCount_0f7a4_1 rfl ?_
  refine s_iconst (v := 1) dJ6_bitCount_0f7a4_2 (by decide) ?_
  refine s_iushr dJ6_bitCount_0f7a4_3 ?_
  refine s_ldcw dJ6_bitCount_0f7a4_4 wJ6_265 ?_
  refine s_iand dJ6_bitCount_0f7a4_7 ?_
  refine s_isub dJ6_bitCount_0f7a4_8 ?_
  refine s_istore_n (lv' := [(0, .int (x0 - ((x0.toUInt32 >>> ((1 : Int32).toUInt32 &&& Int32.toUInt32 31)).toInt32 &&& (1431655765 : Int32))))]) dJ6_bitCount_0f7a4_9 (by decide) rfl ?_
  refine s_iload_n dJ6_bitCount_0f7a4_10 rfl ?_
  refine s_ldcw dJ6_bitCount_0f7a4_11 wJ6_266 ?_
  refine s_iand dJ6_bitCount_0f7a4_14 ?_
  refine s_iload_n dJ6_bitCount_0f7a4_15 rfl ?_
  refine s_iconst (v := 2) dJ6_bitCount_0f7a4_16 (by decide) ?_
  refine s_iushr dJ6_bitCount_0f7a4_17 ?_
  refine s_ldcw dJ6_bitCount_0f7a4_18 wJ6_266 ?_
  refine s_iand dJ6_bitCount_0f7a4_21 ?_
  refine s_iadd dJ6_bitCount_0f7a4_22 ?_
  refine s_istore_n (lv' := [(0, .int (((x0 - ((x0.toUInt32 >>> ((1 : Int32).toUInt32 &&& Int32.toUInt32 31)).toInt32 &&& (1431655765 : Int32))) &&& (858993459 : Int32)) + (((x0 - ((x0.toUInt32 >>> ((1 : Int32).toUInt32 &&& Int32.toUInt32 31)).toInt32 &&& (1431655765 : Int32))).toUInt32 >>> ((2 : Int32).toUInt32 &&& Int32.toUInt32 31)).toInt32 &&& (858993459 : Int32))))]) dJ6_bitCount_0f7a4_23 (by decide) rfl ?_
  refine s_iload_n dJ6_bitCount_0f7a4_24 rfl ?_
  refine s_iload_n dJ6_bitCount_0f7a4_25 rfl ?_
  refine s_iconst (v := 4) dJ6_bitCount_0f7a4_26 (by decide) ?_
  refine s_iushr dJ6_bitCount_0f7a4_27 ?_
  refine s_iadd dJ6_bitCount_0f7a4_28 ?_
  refine s_ldcw dJ6_bitCount_0f7a4_29 wJ6_267 ?_
  refine s_iand dJ6_bitCount_0f7a4_32 ?_
  refine s_istore_n (lv' := [(0, .int (((((x0 - ((x0.toUInt32 >>> ((1 : Int32).toUInt32 &&& Int32.toUInt32 31)).toInt32 &&& (1431655765 : Int32))) &&& (858993459 : Int32)) + (((x0 - ((x0.toUInt32 >>> ((1 : Int32).toUInt32 &&& Int32.toUInt32 31)).toInt32 &&& (1431655765 : Int32))).toUInt32 >>> ((2 : Int32).toUInt32 &&& Int32.toUInt32 31)).toInt32 &&& (858993459 : Int32))) + ((((x0 - ((x0.toUInt32 >>> ((1 : Int32).toUInt32 &&& Int32.toUInt32 31)).toInt32 &&& (1431655765 : Int32))) &&& (858993459 : Int32)) + (((x0 - ((x0.toUInt32 >>> ((1 : Int32).toUInt32 &&& Int32.toUInt32 31)).toInt32 &&& (1431655765 : Int32))).toUInt32 >>> ((2 : Int32).toUInt32 &&& Int32.toUInt32 31)).toInt32 &&& (858993459 : Int32))).toUInt32 >>> ((4 : Int32).toUInt32 &&& Int32.toUInt32 31)).toInt32) &&& (252645135 : Int32)))]) dJ6_bitCount_0f7a4_33 (by decide) rfl ?_
  refine s_iload_n dJ6_bitCount_0f7a4_34 rfl ?_
  refine s_iload_n dJ6_bitCount_0f7a4_35 rfl ?_
  refine s_bipush (v := 8) dJ6_bitCount_0f7a4_36 (by decide) ?_
  refine s_iushr dJ6_bitCount_0f7a4_38 ?_
  refine s_iadd dJ6_bitCount_0f7a4_39 ?_
  refine s_istore_n (lv' := [(0, .int ((((((x0 - ((x0.toUInt32 >>> ((1 : Int32).toUInt32 &&& Int32.toUInt32 31)).toInt32 &&& (1431655765 : Int32))) &&& (858993459 : Int32)) + (((x0 - ((x0.toUInt32 >>> ((1 : Int32).toUInt32 &&& Int32.toUInt32 31)).toInt32 &&& (1431655765 : Int32))).toUInt32 >>> ((2 : Int32).toUInt32 &&& Int32.toUInt32 31)).toInt32 &&& (858993459 : Int32))) + ((((x0 - ((x0.toUInt32 >>> ((1 : Int32).toUInt32 &&& Int32.toUInt32 31)).toInt32 &&& (1431655765 : Int32))) &&& (858993459 : Int32)) + (((x0 - ((x0.toUInt32 >>> ((1 : Int32).toUInt32 &&& Int32.toUInt32 31)).toInt32 &&& (1431655765 : Int32))).toUInt32 >>> ((2 : Int32).toUInt32 &&& Int32.toUInt32 31)).toInt32 &&& (858993459 : Int32))).toUInt32 >>> ((4 : Int32).toUInt32 &&& Int32.toUInt32 31)).toInt32) &&& (252645135 : Int32)) + ((((((x0 - ((x0.toUInt32 >>> ((1 : Int32).toUInt32 &&& Int32.toUInt32 31)).toInt32 &&& (1431655765 : Int32))) &&& (858993459 : Int32)) + (((x0 - ((x0.toUInt32 >>> ((1 : Int32).toUInt32 &&& Int32.toUInt32 31)).toInt32 &&& (1431655765 : Int32))).toUInt32 >>> ((2 : Int32).toUInt32 &&& Int32.toUInt32 31)).toInt32 &&& (858993459 : Int32))) + ((((x0 - ((x0.toUInt32 >>> ((1 : Int32).toUInt32 &&& Int32.toUInt32 31)).toInt32 &&& (1431655765 : Int32))) &&& (858993459 : Int32)) + (((x0 - ((x0.toUInt32 >>> ((1 : Int32).toUInt32 &&& Int32.toUInt32 31)).toInt32 &&& (1431655765 : Int32))).toUInt32 >>> ((2 : Int32).toUInt32 &&& Int32.toUInt32 31)).toInt32 &&& (858993459 : Int32))).toUInt32 >>> ((4 : Int32).toUInt32 &&& Int32.toUInt32 31)).toInt32) &&& (252645135 : Int32)).toUInt32 >>> ((8 : Int32).toUInt32 &&& Int32.toUInt32 31)).toInt32))]) dJ6_bitCount_0f7a4_40 (by decide) rfl ?_
  refine s_iload_n dJ6_bitCount_0f7a4_41 rfl ?_
  refine s_iload_n dJ6_bitCount_0f7a4_42 rfl ?_
  refine s_bipush (v := 16) dJ6_bitCount_0f7a4_43 (by decide) ?_
  refine s_iushr dJ6_bitCount_0f7a4_45 ?_
  refine s_iadd dJ6_bitCount_0f7a4_46 ?_
  refine s_istore_n (lv' := [(0, .int (((((((x0 - ((x0.toUInt32 >>> ((1 : Int32).toUInt32 &&& Int32.toUInt32 31)).toInt32 &&& (1431655765 : Int32))) &&& (858993459 : Int32)) + (((x0 - ((x0.toUInt32 >>> ((1 : Int32).toUInt32 &&& Int32.toUInt32 31)).toInt32 &&& (1431655765 : Int32))).toUInt32 >>> ((2 : Int32).toUInt32 &&& Int32.toUInt32 31)).toInt32 &&& (858993459 : Int32))) + ((((x0 - ((x0.toUInt32 >>> ((1 : Int32).toUInt32 &&& Int32.toUInt32 31)).toInt32 &&& (1431655765 : Int32))) &&& (858993459 : Int32)) + (((x0 - ((x0.toUInt32 >>> ((1 : Int32).toUInt32 &&& Int32.toUInt32 31)).toInt32 &&& (1431655765 : Int32))).toUInt32 >>> ((2 : Int32).toUInt32 &&& Int32.toUInt32 31)).toInt32 &&& (858993459 : Int32))).toUInt32 >>> ((4 : Int32).toUInt32 &&& Int32.toUInt32 31)).toInt32) &&& (252645135 : Int32)) + ((((((x0 - ((x0.toUInt32 >>> ((1 : Int32).toUInt32 &&& Int32.toUInt32 31)).toInt32 &&& (1431655765 : Int32))) &&& (858993459 : Int32)) + (((x0 - ((x0.toUInt32 >>> ((1 : Int32).toUInt32 &&& Int32.toUInt32 31)).toInt32 &&& (1431655765 : Int32))).toUInt32 >>> ((2 : Int32).toUInt32 &&& Int32.toUInt32 31)).toInt32 &&& (858993459 : Int32))) + ((((x0 - ((x0.toUInt32 >>> ((1 : Int32).toUInt32 &&& Int32.toUInt32 31)).toInt32 &&& (1431655765 : Int32))) &&& (858993459 : Int32)) + (((x0 - ((x0.toUInt32 >>> ((1 : Int32).toUInt32 &&& Int32.toUInt32 31)).toInt32 &&& (1431655765 : Int32))).toUInt32 >>> ((2 : Int32).toUInt32 &&& Int32.toUInt32 31)).toInt32 &&& (858993459 : Int32))).toUInt32 >>> ((4 : Int32).toUInt32 &&& Int32.toUInt32 31)).toInt32) &&& (252645135 : Int32)).toUInt32 >>> ((8 : Int32).toUInt32 &&& Int32.toUInt32 31)).toInt32) + (((((((x0 - ((x0.toUInt32 >>> ((1 : Int32).toUInt32 &&& Int32.toUInt32 31)).toInt32 &&& (1431655765 : Int32))) &&& (858993459 : Int32)) + (((x0 - ((x0.toUInt32 >>> ((1 : Int32).toUInt32 &&& Int32.toUInt32 31)).toInt32 &&& (1431655765 : Int32))).toUInt32 >>> ((2 : Int32).toUInt32 &&& Int32.toUInt32 31)).toInt32 &&& (858993459 : Int32))) + ((((x0 - ((x0.toUInt32 >>> ((1 : Int32).toUInt32 &&& Int32.toUInt32 31)).toInt32 &&& (1431655765 : Int32))) &&& (858993459 : Int32)) + (((x0 - ((x0.toUInt32 >>> ((1 : Int32).toUInt32 &&& Int32.toUInt32 31)).toInt32 &&& (1431655765 : Int32))).toUInt32 >>> ((2 : Int32).toUInt32 &&& Int32.toUInt32 31)).toInt32 &&& (858993459 : Int32))).toUInt32 >>> ((4 : Int32).toUInt32 &&& Int32.toUInt32 31)).toInt32) &&& (252645135 : Int32)) + ((((((x0 - ((x0.toUInt32 >>> ((1 : Int32).toUInt32 &&& Int32.toUInt32 31)).toInt32 &&& (1431655765 : Int32))) &&& (858993459 : Int32)) + (((x0 - ((x0.toUInt32 >>> ((1 : Int32).toUInt32 &&& Int32.toUInt32 31)).toInt32 &&& (1431655765 : Int32))).toUInt32 >>> ((2 : Int32).toUInt32 &&& Int32.toUInt32 31)).toInt32 &&& (858993459 : Int32))) + ((((x0 - ((x0.toUInt32 >>> ((1 : Int32).toUInt32 &&& Int32.toUInt32 31)).toInt32 &&& (1431655765 : Int32))) &&& (858993459 : Int32)) + (((x0 - ((x0.toUInt32 >>> ((1 : Int32).toUInt32 &&& Int32.toUInt32 31)).toInt32 &&& (1431655765 : Int32))).toUInt32 >>> ((2 : Int32).toUInt32 &&& Int32.toUInt32 31)).toInt32 &&& (858993459 : Int32))).toUInt32 >>> ((4 : Int32).toUInt32 &&& Int32.toUInt32 31)).toInt32) &&& (252645135 : Int32)).toUInt32 >>> ((8 : Int32).toUInt32 &&& Int32.toUInt32 31)).toInt32).toUInt32 >>> ((16 : Int32).toUInt32 &&& Int32.toUInt32 31)).toInt32))]) dJ6_bitCount_0f7a4_47 (by decide) rfl ?_
  refine s_iload_n dJ6_bitCount_0f7a4_48 rfl ?_
  refine s_bipush (v := 63) dJ6_bitCount_0f7a4_49 (by decide) ?_
  refine s_iand dJ6_bitCount_0f7a4_51 ?_
  exact s_ireturn dJ6_bitCount_0f7a4_52 rfl rfl
theorem CJ6_bitCount_0f7a4 {l : Launch} {g : qG} {d : Nat} (x0 : Int32) : qCt l g mJ6_bitCount_0f7a4 d 0 0 cvI [.int x0] (FJ6_bitCount_0f7a4 x0) := s_of pn_J6 (Nat.le_of_ble_eq_true rfl) fun n => FJ6_bitCount_0f7a4_ok x0

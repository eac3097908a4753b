def FX4_begin (x0 : Nat) (x1 : Nat) (x2 : Int32) : qP Unit :=
qb (pV 4 x0 4 (.int (if (5 : Int32) < x2 then (5 : Int32) else x2))) fun _ =>
qb (gR 2 x1 6) fun v1 =>
qb (gR 4 x0 0) fun v2 =>
qb (aQ 2 v2 (0 : Int32)) fun y => qb (qso y) fun v3 =>
qb (cp v1 (0 : Int32) v3 (0 : Int32) (10 : Int32)) fun _ =>
qr ()
set_option maxRecDepth 100000 in
set_option maxHeartbeats 4000000 in
theorem FX4_begin_ok {l : Launch} {g : qG} {d n : Nat} (x0 : Nat) (x1 : Nat) (x2 : Int32) : qS l g mX4_begin (d + 1) n 0 0 0 0 cvV 0 [(0, .ref x0), (1, .ref x1), (2, .int x2)] [] (FX4_begin x0 x1 x2) := by
  unfold FX4_begin
  refine s_aload_n dX4_begin_0 rfl ?_
  refine s_iload_n dX4_begin_1 rfl ?_
  refine s_iconst (v := 5) dX4_begin_2 (by decide) ?_
  refine s_min dX4_begin_3 tX4_88 kw_ns kw_mi kw_nc (Nat.le_of_ble_eq_true rfl) ⟨Nat.le_refl _, Nat.le_refl _⟩ ?_
  refine s_put dX4_begin_6 fX4_28 rfl rfl ?_
  refine s_aload_n dX4_begin_9 rfl ?_
  refine s_gR dX4_begin_10 fX4_65 fun v1 => ?_
  refine s_iconst (v := 0) dX4_begin_13 (by decide) ?_
  refine s_aload_n dX4_begin_14 rfl ?_
  refine s_gR dX4_begin_15 fX4_13 fun v2 => ?_
  refine s_iconst (v := 0) dX4_begin_18 (by decide) ?_
  refine s_aR (by decide) dX4_begin_19 fun v3 => ?_
  refine s_iconst (v := 0) dX4_begin_20 (by decide) ?_
  refine s_bipush (v := 10) dX4_begin_21 (by decide) ?_
  refine s_copy dX4_begin_23 aX4_91 kw_an kw_as kw_ai (Nat.le_of_ble_eq_true rfl) ?_
  exact s_return dX4_begin_26 rfl
theorem CX4_begin {l : Launch} {g : qG} {d : Nat} (x0 : Nat) (x1 : Nat) (x2 : Int32) : qCt l g mX4_begin (d + 1) 0 0 cvV [.ref x0, .ref x1, .int x2] (FX4_begin x0 x1 x2) := s_of pn_X4 (Nat.le_of_ble_eq_true rfl) fun n => FX4_begin_ok x0 x1 x2
def UX4_mostSewable_108 (R : Nat → Nat → Int32 → Int32 → Int32 → Int32 → Int32 → Int32 → Int32 → Int32 → qP Int32) (x0 : Nat) (x1 : Nat) (x2 : Int32) (x3 : Int32) (x4 : Int32) (x5 : Int32) (x6 : Int32) (x8 : Int32) (x9 : Int32) (x10 : Int32) (s0 : Int32) (s1 : Int32) : qP Int32 :=
qb (aI x1 (7 : Int32)) fun v1 =>
qb (gI 4 x0 7) fun v2 =>
R x0 x1 x2 x3 x4 x5 x6 (s0 + s1) (if x8 < (if (if (s0 + s1) < x6 then (s0 + s1) else x6) < (v1 + (v2 * x10)) then (if (s0 + s1) < x6 then (s0 + s1) else x6) else (v1 + (v2 * x10))) then (if (if (s0 + s1) < x6 then (s0 + s1) else x6) < (v1 + (v2 * x10)) then (if (s0 + s1) < x6 then (s0 + s1) else x6) else (v1 + (v2 * x10))) else x8) (x9 + 1)
set_option maxRecDepth 100000 in
set_option maxHeartbeats 4000000 in
theorem UX4_mostSewable_108_ok {l : Launch} {g : qG} {d n : Nat} {R : Nat → Nat → Int32 → Int32 → Int32 → Int32 → Int32 → Int32 → Int32 → Int32 → qP Int32} (hR : ∀ (x0 : Nat) (x1 : Nat) (x2 : Int32) (x3 : Int32) (x4 : Int32) (x5 : Int32) (x6 : Int32) (x7 : Int32) (x8 : Int32) (x9 : Int32), qS l g mX4_mostSewable (d + 1) n 0 0 0 0 cvI 40 [(0, .ref x0), (1, .ref x1), (2, .int x2), (3, .int x3), (4, .int x4), (5, .int x5), (6, .int x6), (7, .int x7), (8, .int x8), (9, .int x9)] [] (R x0 x1 x2 x3 x4 x5 x6 x7 x8 x9)) (x0 : Nat) (x1 : Nat) (x2 : Int32) (x3 : Int32) (x4 : Int32) (x5 : Int32) (x6 : Int32) (x8 : Int32) (x9 : Int32) (x10 : Int32) (s0 : Int32) (s1 : Int32) : qS l g mX4_mostSewable (d + 1) n 0 0 0 0 cvI 108 [(0, .ref x0), (1, .ref x1), (2, .int x2), (3, .int x3), (4, .int x4), (5, .int x5), (6, .int x6), (8, .int x8), (9, .int x9), (10, .int x10)] [.int s1, .int s0] (UX4_mostSewable_108 R x0 x1 x2 x3 x4 x5 x6 x8 x9 x10 s0 s1) := by
  unfold UX4_mostSewable_108
  refine s_iadd dX4_mostSewable_108 ?_
  refine s_istore (lv' := [(7, .int (s0 + s1)), (0, .ref x0), (1, .ref x1), (2, .int x2), (3, .int x3), (4, .int x4), (5, .int x5), (6, .int x6), (8, .int x8), (9, .int x9), (10, .int x10)]) dX4_mostSewable_109 (by decide) rfl ?_
  refine s_aload_n dX4_mostSewable_111 rfl ?_
  refine s_bipush (v := 7) dX4_mostSewable_112 (by decide) ?_
  refine s_aI dX4_mostSewable_114 fun v1 => ?_
  refine s_aload_n dX4_mostSewable_115 rfl ?_
  refine s_gI dX4_mostSewable_116 fX4_38 fun v2 => ?_
  refine s_iload dX4_mostSewable_119 rfl ?_
  refine s_imul dX4_mostSewable_121 ?_
  refine s_iadd dX4_mostSewable_122 ?_
  refine s_istore (lv' := [(11, .int (v1 + (v2 * x10))), (7, .int (s0 + s1)), (0, .ref x0), (1, .ref x1), (2, .int x2), (3, .int x3), (4, .int x4), (5, .int x5), (6, .int x6), (8, .int x8), (9, .int x9), (10, .int x10)]) dX4_mostSewable_123 (by decide) rfl ?_
  refine s_iload dX4_mostSewable_125 rfl ?_
  refine s_iload dX4_mostSewable_127 rfl ?_
  refine s_iload dX4_mostSewable_129 rfl ?_
  refine s_iload dX4_mostSewable_131 rfl ?_
  refine s_min dX4_mostSewable_133 tX4_88 kw_ns kw_mi kw_nc (Nat.le_of_ble_eq_true rfl) ⟨Nat.le_refl _, Nat.le_refl _⟩ ?_
  refine s_min dX4_mostSewable_136 tX4_88 kw_ns kw_mi kw_nc (Nat.le_of_ble_eq_true rfl) ⟨Nat.le_refl _, Nat.le_refl _⟩ ?_
  refine s_max dX4_mostSewable_139 tX4_74 kw_xs kw_mi kw_xc (Nat.le_of_ble_eq_true rfl) ⟨Nat.le_refl _, Nat.le_refl _⟩ ?_
  refine s_istore (lv' := [(8, .int (if x8 < (if (if (s0 + s1) < x6 then (s0 + s1) else x6) < (v1 + (v2 * x10)) then (if (s0 + s1) < x6 then (s0 + s1) else x6) else (v1 + (v2 * x10))) then (if (if (s0 + s1) < x6 then (s0 + s1) else x6) < (v1 + (v2 * x10)) then (if (s0 + s1) < x6 then (s0 + s1) else x6) else (v1 + (v2 * x10))) else x8)), (11, .int (v1 + (v2 * x10))), (7, .int (s0 + s1)), (0, .ref x0), (1, .ref x1), (2, .int x2), (3, .int x3), (4, .int x4), (5, .int x5), (6, .int x6), (9, .int x9), (10, .int x10)]) dX4_mostSewable_142 (by decide) rfl ?_
  refine s_iinc (lv' := [(9, .int (x9 + 1)), (8, .int (if x8 < (if (if (s0 + s1) < x6 then (s0 + s1) else x6) < (v1 + (v2 * x10)) then (if (s0 + s1) < x6 then (s0 + s1) else x6) else (v1 + (v2 * x10))) then (if (if (s0 + s1) < x6 then (s0 + s1) else x6) < (v1 + (v2 * x10)) then (if (s0 + s1) < x6 then (s0 + s1) else x6) else (v1 + (v2 * x10))) else x8)), (11, .int (v1 + (v2 * x10))), (7, .int (s0 + s1)), (0, .ref x0), (1, .ref x1), (2, .int x2), (3, .int x3), (4, .int x4), (5, .int x5), (6, .int x6), (10, .int x10)]) dX4_mostSewable_144 rfl (by decide) rfl ?_
  refine s_goto (tgt := 40) dX4_mostSewable_147 (by decide) ?_
  refine s_locals [4, 5, 6, 7, 8, 9, 10, 3, 1, 0] rfl ?_
  exact hR x0 x1 x2 x3 x4 x5 x6 (s0 + s1) (if x8 < (if (if (s0 + s1) < x6 then (s0 + s1) else x6) < (v1 + (v2 * x10)) then (if (s0 + s1) < x6 then (s0 + s1) else x6) else (v1 + (v2 * x10))) then (if (if (s0 + s1) < x6 then (s0 + s1) else x6) < (v1 + (v2 * x10)) then (if (s0 + s1) < x6 then (s0 + s1) else x6) else (v1 + (v2 * x10))) else x8) (x9 + 1)
def UX4_mostSewable_40 (R : Nat → Nat → Int32 → Int32 → Int32 → Int32 → Int32 → Int32 → Int32 → Int32 → qP Int32) (x0 : Nat) (x1 : Nat) (x2 : Int32) (x3 : Int32) (x4 : Int32) (x5 : Int32) (x6 : Int32) (x7 : Int32) (x8 : Int32) (x9 : Int32) : qP Int32 :=
if x2 < x9 then (
qr x8) else (
qb (aI x1 (8 : Int32)) fun v1 =>
qb (FX2_partsBy (if (v1 - ((2 : Int32) * (x2 - x9))) < (0 : Int32) then (0 : Int32) else (v1 - ((2 : Int32) * (x2 - x9))))) fun v2 =>
if x3 < x9 then (
if x4 < x9 then (
if x5 < x9 then (
UX4_mostSewable_108 R x0 x1 x2 x3 x4 x5 (x6 + v2) x8 x9 (x2 - x9) x7 (0 : Int32)) else (
UX4_mostSewable_108 R x0 x1 x2 x3 x4 x5 (x6 + v2) x8 x9 (x2 - x9) x7 (1 : Int32))) else (
UX4_mostSewable_108 R x0 x1 x2 x3 x4 x5 (x6 + v2) x8 x9 (x2 - x9) x7 (2 : Int32))) else (
UX4_mostSewable_108 R x0 x1 x2 x3 x4 x5 (x6 + v2) x8 x9 (x2 - x9) x7 (3 : Int32)))
set_option maxRecDepth 100000 in
set_option maxHeartbeats 4000000 in
theorem UX4_mostSewable_40_ok {l : Launch} {g : qG} {d n : Nat} {R : Nat → Nat → Int32 → Int32 → Int32 → Int32 → Int32 → Int32 → Int32 → Int32 → qP Int32} (hR : ∀ (x0 : Nat) (x1 : Nat) (x2 : Int32) (x3 : Int32) (x4 : Int32) (x5 : Int32) (x6 : Int32) (x7 : Int32) (x8 : Int32) (x9 : Int32), qS l g mX4_mostSewable (d + 1) n 0 0 0 0 cvI 40 [(0, .ref x0), (1, .ref x1), (2, .int x2), (3, .int x3), (4, .int x4), (5, .int x5), (6, .int x6), (7, .int x7), (8, .int x8), (9, .int x9)] [] (R x0 x1 x2 x3 x4 x5 x6 x7 x8 x9)) (x0 : Nat) (x1 : Nat) (x2 : Int32) (x3 : Int32) (x4 : Int32) (x5 : Int32) (x6 : Int32) (x7 : Int32) (x8 : Int32) (x9 : Int32) : qS l g mX4_mostSewable (d + 1) n 0 0 0 0 cvI 40 [(0, .ref x0), (1, .ref x1), (2, .int x2), (3, .int x3), (4, .int x4), (5, .int x5), (6, .int x6), (7, .int x7), (8, .int x8), (9, .int x9)] [] (UX4_mostSewable_40 R x0 x1 x2 x3 x4 x5 x6 x7 x8 x9) := by
  unfold UX4_mostSewable_40
  refine s_iload dX4_mostSewable_40 rfl ?_
  refine s_iload_n dX4_mostSewable_42 rfl ?_
  refine s_icmp_gt (tgt := 150) dX4_mostSewable_43 (by decide) (fun c1 => ?_) (fun c1 => ?_)
  · refine s_iload dX4_mostSewable_150 rfl ?_
    exact s_ireturn dX4_mostSewable_152 rfl rfl
  · refine s_iload_n dX4_mostSewable_46 rfl ?_
    refine s_iload dX4_mostSewable_47 rfl ?_
    refine s_isub dX4_mostSewable_49 ?_
    refine s_istore (lv' := [(10, .int (x2 - x9)), (0, .ref x0), (1, .ref x1), (2, .int x2), (3, .int x3), (4, .int x4), (5, .int x5), (6, .int x6), (7, .int x7), (8, .int x8), (9, .int x9)]) dX4_mostSewable_50 (by decide) rfl ?_
    refine s_iload dX4_mostSewable_52 rfl ?_
    refine s_aload_n dX4_mostSewable_54 rfl ?_
    refine s_bipush (v := 8) dX4_mostSewable_55 (by decide) ?_
    refine s_aI dX4_mostSewable_57 fun v1 => ?_
    refine s_iconst (v := 2) dX4_mostSewable_58 (by decide) ?_
    refine s_iload dX4_mostSewable_59 rfl ?_
    refine s_imul dX4_mostSewable_61 ?_
    refine s_isub dX4_mostSewable_62 ?_
    refine s_iconst (v := 0) dX4_mostSewable_63 (by decide) ?_
    refine s_max dX4_mostSewable_64 tX4_74 kw_xs kw_mi kw_xc (Nat.le_of_ble_eq_true rfl) ⟨Nat.le_refl _, Nat.le_refl _⟩ ?_
    refine s_staticI (as := [.int (if (v1 - ((2 : Int32) * (x2 - x9))) < (0 : Int32) then (0 : Int32) else (v1 - ((2 : Int32) * (x2 - x9))))]) (rest := [.int x6]) dX4_mostSewable_67 sX4_127 (CX2_partsBy _) (Nat.le_of_ble_eq_true rfl) ⟨Nat.le_refl _, Nat.le_refl _⟩ fun v2 => ?_
    refine s_iadd dX4_mostSewable_70 ?_
    refine s_istore (lv' := [(6, .int (x6 + v2)), (10, .int (x2 - x9)), (0, .ref x0), (1, .ref x1), (2, .int x2), (3, .int x3), (4, .int x4), (5, .int x5), (7, .int x7), (8, .int x8), (9, .int x9)]) dX4_mostSewable_71 (by decide) rfl ?_
    refine s_iload dX4_mostSewable_73 rfl ?_
    refine s_iload dX4_mostSewable_75 rfl ?_
    refine s_iload_n dX4_mostSewable_77 rfl ?_
    refine s_icmp_gt (tgt := 85) dX4_mostSewable_78 (by decide) (fun c2 => ?_) (fun c2 => ?_)
    · refine s_iload dX4_mostSewable_85 rfl ?_
      refine s_iload dX4_mostSewable_87 rfl ?_
      refine s_icmp_gt (tgt := 96) dX4_mostSewable_89 (by decide) (fun c3 => ?_) (fun c3 => ?_)
      · refine s_iload dX4_mostSewable_96 rfl ?_
        refine s_iload dX4_mostSewable_98 rfl ?_
        refine s_icmp_gt (tgt := 107) dX4_mostSewable_100 (by decide) (fun c4 => ?_) (fun c4 => ?_)
        · refine s_iconst (v := 0) dX4_mostSewable_107 (by decide) ?_
          refine s_locals [2, 3, 4, 5, 6, 7, 0, 9, 10, 1] rfl ?_
          exact UX4_mostSewable_108_ok hR x0 x1 x2 x3 x4 x5 (x6 + v2) x8 x9 (x2 - x9) x7 (0 : Int32)
        · refine s_iconst (v := 1) dX4_mostSewable_103 (by decide) ?_
          refine s_goto (tgt := 108) dX4_mostSewable_104 (by decide) ?_
          refine s_locals [2, 3, 4, 5, 6, 7, 0, 9, 10, 1] rfl ?_
          exact UX4_mostSewable_108_ok hR x0 x1 x2 x3 x4 x5 (x6 + v2) x8 x9 (x2 - x9) x7 (1 : Int32)
      · refine s_iconst (v := 2) dX4_mostSewable_92 (by decide) ?_
        refine s_goto (tgt := 108) dX4_mostSewable_93 (by decide) ?_
        refine s_locals [2, 3, 4, 5, 6, 7, 0, 9, 10, 1] rfl ?_
        exact UX4_mostSewable_108_ok hR x0 x1 x2 x3 x4 x5 (x6 + v2) x8 x9 (x2 - x9) x7 (2 : Int32)
    · refine s_iconst (v := 3) dX4_mostSewable_81 (by decide) ?_
      refine s_goto (tgt := 108) dX4_mostSewable_82 (by decide) ?_
      refine s_locals [2, 3, 4, 5, 6, 7, 0, 9, 10, 1] rfl ?_
      exact UX4_mostSewable_108_ok hR x0 x1 x2 x3 x4 x5 (x6 + v2) x8 x9 (x2 - x9) x7 (3 : Int32)
def WX4_mostSewable_40 : Nat → Nat → Nat → Int32 → Int32 → Int32 → Int32 → Int32 → Int32 → Int32 → Int32 → qP Int32
  | 0 => fun _ _ _ _ _ _ _ _ _ _ => qfail
  | N + 1 => fun x0 x1 x2 x3 x4 x5 x6 x7 x8 x9 => UX4_mostSewable_40 (WX4_mostSewable_40  N)  x0 x1 x2 x3 x4 x5 x6 x7 x8 x9
theorem WX4_mostSewable_40_ok {l : Launch} {g : qG} {d n : Nat} : ∀ (N : Nat) (x0 : Nat) (x1 : Nat) (x2 : Int32) (x3 : Int32) (x4 : Int32) (x5 : Int32) (x6 : Int32) (x7 : Int32) (x8 : Int32) (x9 : Int32), qS l g mX4_mostSewable (d + 1) n 0 0 0 0 cvI 40 [(0, .ref x0), (1, .ref x1), (2, .int x2), (3, .int x3), (4, .int x4), (5, .int x5), (6, .int x6), (7, .int x7), (8, .int x8), (9, .int x9)] [] (WX4_mostSewable_40  N x0 x1 x2 x3 x4 x5 x6 x7 x8 x9) := by
  intro N
  induction N with
  | zero => intro x0 x1 x2 x3 x4 x5 x6 x7 x8 x9; exact s_fail
  | succ N ih => intro x0 x1 x2 x3 x4 x5 x6 x7 x8 x9; exact UX4_mostSewable_40_ok ih  x0 x1 x2 x3 x4 x5 x6 x7 x8 x9
def FX4_mostSewable (x0 : Nat) (x1 : Nat) (x2 : Int32) : qP Int32 :=
qb (gR 4 x0 3) fun v1 =>
qb (aI v1 (3 : Int32)) fun v2 =>
qb (gR 4 x0 3) fun v3 =>
qb (aI v3 (2 : Int32)) fun v4 =>
qb (gR 4 x0 3) fun v5 =>
qb (aI v5 (1 : Int32)) fun v6 =>
WX4_mostSewable_40 1000000 x0 x1 x2 v2 (v2 + v4) ((v2 + v4) + v6) (0 : Int32) (0 : Int32) (0 : Int32) (1 : Int32)
set_option maxRecDepth 100000 in
set_option maxHeartbeats 4000000 in
theorem FX4_mostSewable_ok {l : Launch} {g : qG} {d n : Nat} (x0 : Nat) (x1 : Nat) (x2 : Int32) : qS l g mX4_mostSewable (d + 1) n 0 0 0 0 cvI 0 [(0, .ref x0), (1, .ref x1), (2, .int x2)] [] (FX4_mostSewable x0 x1 x2) := by
  unfold FX4_mostSewable
  refine s_aload_n dX4_mostSewable_0 rfl ?_
  refine s_gR dX4_mostSewable_1 fX4_25 fun v1 => ?_
  refine s_iconst (v := 3) dX4_mostSewable_4 (by decide) ?_
  refine s_aI dX4_mostSewable_5 fun v2 => ?_
  refine s_istore_n (lv' := [(3, .int v2), (0, .ref x0), (1, .ref x1), (2, .int x2)]) dX4_mostSewable_6 (by decide) rfl ?_
  refine s_iload_n dX4_mostSewable_7 rfl ?_
  refine s_aload_n dX4_mostSewable_8 rfl ?_
  refine s_gR dX4_mostSewable_9 fX4_25 fun v3 => ?_
  refine s_iconst (v := 2) dX4_mostSewable_12 (by decide) ?_
  refine s_aI dX4_mostSewable_13 fun v4 => ?_
  refine s_iadd dX4_mostSewable_14 ?_
  refine s_istore (lv' := [(4, .int (v2 + v4)), (3, .int v2), (0, .ref x0), (1, .ref x1), (2, .int x2)]) dX4_mostSewable_15 (by decide) rfl ?_
  refine s_iload dX4_mostSewable_17 rfl ?_
  refine s_aload_n dX4_mostSewable_19 rfl ?_
  refine s_gR dX4_mostSewable_20 fX4_25 fun v5 => ?_
  refine s_iconst (v := 1) dX4_mostSewable_23 (by decide) ?_
  refine s_aI dX4_mostSewable_24 fun v6 => ?_
  refine s_iadd dX4_mostSewable_25 ?_
  refine s_istore (lv' := [(5, .int ((v2 + v4) + v6)), (4, .int (v2 + v4)), (3, .int v2), (0, .ref x0), (1, .ref x1), (2, .int x2)]) dX4_mostSewable_26 (by decide) rfl ?_
  refine s_iconst (v := 0) dX4_mostSewable_28 (by decide) ?_
  refine s_istore (lv' := [(6, .int (0 : Int32)), (5, .int ((v2 + v4) + v6)), (4, .int (v2 + v4)), (3, .int v2), (0, .ref x0), (1, .ref x1), (2, .int x2)]) dX4_mostSewable_29 (by decide) rfl ?_
  refine s_iconst (v := 0) dX4_mostSewable_31 (by decide) ?_
  refine s_istore (lv' := [(7, .int (0 : Int32)), (6, .int (0 : Int32)), (5, .int ((v2 + v4) + v6)), (4, .int (v2 + v4)), (3, .int v2), (0, .ref x0), (1, .ref x1), (2, .int x2)]) dX4_mostSewable_32 (by decide) rfl ?_
  refine s_iconst (v := 0) dX4_mostSewable_34 (by decide) ?_
  refine s_istore (lv' := [(8, .int (0 : Int32)), (7, .int (0 : Int32)), (6, .int (0 : Int32)), (5, .int ((v2 + v4) + v6)), (4, .int (v2 + v4)), (3, .int v2), (0, .ref x0), (1, .ref x1), (2, .int x2)]) dX4_mostSewable_35 (by decide) rfl ?_
  refine s_iconst (v := 1) dX4_mostSewable_37 (by decide) ?_
  refine s_istore (lv' := [(9, .int (1 : Int32)), (8, .int (0 : Int32)), (7, .int (0 : Int32)), (6, .int (0 : Int32)), (5, .int ((v2 + v4) + v6)), (4, .int (v2 + v4)), (3, .int v2), (0, .ref x0), (1, .ref x1), (2, .int x2)]) dX4_mostSewable_38 (by decide) rfl ?_
  refine s_locals [7, 8, 9, 6, 5, 4, 3, 2, 1, 0] rfl ?_
  exact WX4_mostSewable_40_ok  1000000 x0 x1 x2 v2 (v2 + v4) ((v2 + v4) + v6) (0 : Int32) (0 : Int32) (0 : Int32) (1 : Int32)
theorem CX4_mostSewable {l : Launch} {g : qG} {d : Nat} (x0 : Nat) (x1 : Nat) (x2 : Int32) : qCt l g mX4_mostSewable (d + 1) 0 0 cvI [.ref x0, .ref x1, .int x2] (FX4_mostSewable x0 x1 x2) := s_of pn_X4 (Nat.le_of_ble_eq_true rfl) fun n => FX4_mostSewable_ok x0 x1 x2
def UX4_isWorth_141 (R : Nat → Nat → Int32 → Nat → Int32 → Int32 → Int32 → Int32 → qP Int32) (K150 : Nat → Int32 → Nat → Int32 → Int32 → Int32 → qP Int32) (x0 : Nat) (x1 : Nat) (x3 : Int32) (x4 : Nat) (x5 : Int32) (x6 : Int32) (x8 : Int32) (s0 : Int32) (s1 : Int32) : qP Int32 :=
R x0 x1 x3 x4 x5 x6 (s0 + s1) (x8 + 1)
set_option maxRecDepth 100000 in
set_option maxHeartbeats 4000000 in
theorem UX4_isWorth_141_ok {l : Launch} {g : qG} {d n : Nat} {R : Nat → Nat → Int32 → Nat → Int32 → Int32 → Int32 → Int32 → qP Int32} (hR : ∀ (x0 : Nat) (x1 : Nat) (x3 : Int32) (x4 : Nat) (x5 : Int32) (x6 : Int32) (x7 : Int32) (x8 : Int32), qS l g mX4_isWorth (d + 2) n 0 0 0 0 cvI 50 [(0, .ref x0), (1, .ref x1), (3, .int x3), (4, .ref x4), (5, .int x5), (6, .int x6), (7, .int x7), (8, .int x8)] [] (R x0 x1 x3 x4 x5 x6 x7 x8)) {K150 : Nat → Int32 → Nat → Int32 → Int32 → Int32 → qP Int32} (hK150 : ∀ (x0 : Nat) (x3 : Int32) (x4 : Nat) (x5 : Int32) (x6 : Int32) (x7 : Int32), qS l g mX4_isWorth (d + 2) n 0 0 0 0 cvI 150 [(0, .ref x0), (3, .int x3), (4, .ref x4), (5, .int x5), (6, .int x6), (7, .int x7)] [] (K150 x0 x3 x4 x5 x6 x7)) (x0 : Nat) (x1 : Nat) (x3 : Int32) (x4 : Nat) (x5 : Int32) (x6 : Int32) (x8 : Int32) (s0 : Int32) (s1 : Int32) : qS l g mX4_isWorth (d + 2) n 0 0 0 0 cvI 141 [(0, .ref x0), (1, .ref x1), (3, .int x3), (4, .ref x4), (5, .int x5), (6, .int x6), (8, .int x8)] [.int s1, .int s0] (UX4_isWorth_141 R K150 x0 x1 x3 x4 x5 x6 x8 s0 s1) := by
  unfold UX4_isWorth_141
  refine s_iadd dX4_isWorth_141 ?_
  refine s_istore (lv' := [(7, .int (s0 + s1)), (0, .ref x0), (1, .ref x1), (3, .int x3), (4, .ref x4), (5, .int x5), (6, .int x6), (8, .int x8)]) dX4_isWorth_142 (by decide) rfl ?_
  refine s_iinc (lv' := [(8, .int (x8 + 1)), (7, .int (s0 + s1)), (0, .ref x0), (1, .ref x1), (3, .int x3), (4, .ref x4), (5, .int x5), (6, .int x6)]) dX4_isWorth_144 rfl (by decide) rfl ?_
  refine s_goto (tgt := 50) dX4_isWorth_147 (by decide) ?_
  refine s_locals [2, 3, 4, 5, 6, 7, 1, 0] rfl ?_
  exact hR x0 x1 x3 x4 x5 x6 (s0 + s1) (x8 + 1)
def UX4_isWorth_50 (R : Nat → Nat → Int32 → Nat → Int32 → Int32 → Int32 → Int32 → qP Int32) (K150 : Nat → Int32 → Nat → Int32 → Int32 → Int32 → qP Int32) (x0 : Nat) (x1 : Nat) (x3 : Int32) (x4 : Nat) (x5 : Int32) (x6 : Int32) (x7 : Int32) (x8 : Int32) : qP Int32 :=
qb (gI 2 x1 5) fun v1 =>
if v1 ≤ x8 then (
K150 x0 x3 x4 x5 x6 x7) else (
qb (qcl 2 x1) fun _ => qb (FX2_lacks x1 x4 x8) fun v2 =>
qb (gR 4 x0 3) fun v3 =>
qb (aI v3 (3 : Int32)) fun v4 =>
qb (sI v3 (3 : Int32) (v4 + (v2 / (3 : Int32)))) fun _ =>
qb (gR 4 x0 3) fun v5 =>
qb (aI v5 (v2 - ((v2 / (3 : Int32)) * (3 : Int32)))) fun v6 =>
qb (sI v5 (v2 - ((v2 / (3 : Int32)) * (3 : Int32))) (v6 + (1 : Int32))) fun _ =>
qb (gI 4 x0 5) fun v7 =>
qb (FX11_isSet v7 x8) fun v8 =>
if v8 = 0 then (
R x0 x1 x3 x4 x5 x6 x7 (x8 + 1)) else (
if (v2 - ((v2 / (3 : Int32)) * (3 : Int32))) = 0 then (
UX4_isWorth_141 R K150 x0 x1 x3 x4 x5 (x6 + v2) x8 x7 (v2 / (3 : Int32))) else (
UX4_isWorth_141 R K150 x0 x1 x3 x4 x5 (x6 + v2) x8 x7 ((v2 / (3 : Int32)) + (1 : Int32)))))
set_option maxRecDepth 100000 in
set_option maxHeartbeats 4000000 in
theorem UX4_isWorth_50_ok {l : Launch} {g : qG} {d n : Nat} {R : Nat → Nat → Int32 → Nat → Int32 → Int32 → Int32 → Int32 → qP Int32} (hR : ∀ (x0 : Nat) (x1 : Nat) (x3 : Int32) (x4 : Nat) (x5 : Int32) (x6 : Int32) (x7 : Int32) (x8 : Int32), qS l g mX4_isWorth (d + 2) n 0 0 0 0 cvI 50 [(0, .ref x0), (1, .ref x1), (3, .int x3), (4, .ref x4), (5, .int x5), (6, .int x6), (7, .int x7), (8, .int x8)] [] (R x0 x1 x3 x4 x5 x6 x7 x8)) {K150 : Nat → Int32 → Nat → Int32 → Int32 → Int32 → qP Int32} (hK150 : ∀ (x0 : Nat) (x3 : Int32) (x4 : Nat) (x5 : Int32) (x6 : Int32) (x7 : Int32), qS l g mX4_isWorth (d + 2) n 0 0 0 0 cvI 150 [(0, .ref x0), (3, .int x3), (4, .ref x4), (5, .int x5), (6, .int x6), (7, .int x7)] [] (K150 x0 x3 x4 x5 x6 x7)) (x0 : Nat) (x1 : Nat) (x3 : Int32) (x4 : Nat) (x5 : Int32) (x6 : Int32) (x7 : Int32) (x8 : Int32) : qS l g mX4_isWorth (d + 2) n 0 0 0 0 cvI 50 [(0, .ref x0), (1, .ref x1), (3, .int x3), (4, .ref x4), (5, .int x5), (6, .int x6), (7, .int x7), (8, .int x8)] [] (UX4_isWorth_50 R K150 x0 x1 x3 x4 x5 x6 x7 x8) := by
  unfold UX4_isWorth_50
  refine s_iload dX4_isWorth_50 rfl ?_
  refine s_aload_n dX4_isWorth_52 rfl ?_
  refine s_gI dX4_isWorth_53 fX4_114 fun v1 => ?_
  refine s_icmp_ge (tgt := 150) dX4_isWorth_56 (by decide) (fun c1 => ?_) (fun c1 => ?_)
  · refine s_locals [0, 2, 3, 4, 5, 6] rfl ?_
    exact hK150 x0 x3 x4 x5 x6 x7
  · refine s_aload_n dX4_isWorth_59 rfl ?_
    refine s_aload dX4_isWorth_60 rfl ?_
    refine s_iload dX4_isWorth_62 rfl ?_
    refine s_virtI (as := [.ref x4, .int x8]) (rest := []) dX4_isWorth_64 vX4_117 (CX2_lacks _ _ _) (Nat.le_of_ble_eq_true rfl) ⟨Nat.le_refl _, Nat.le_refl _⟩ fun v2 => ?_
    refine s_istore (lv' := [(9, .int v2), (0, .ref x0), (1, .ref x1), (3, .int x3), (4, .ref x4), (5, .int x5), (6, .int x6), (7, .int x7), (8, .int x8)]) dX4_isWorth_67 (by decide) rfl ?_
    refine s_iload dX4_isWorth_69 rfl ?_
    refine s_iconst (v := 3) dX4_isWorth_71 (by decide) ?_
    refine s_idiv dX4_isWorth_72 (by decide) ?_
    refine s_istore (lv' := [(10, .int (v2 / (3 : Int32))), (9, .int v2), (0, .ref x0), (1, .ref x1), (3, .int x3), (4, .ref x4), (5, .int x5), (6, .int x6), (7, .int x7), (8, .int x8)]) dX4_isWorth_73 (by decide) rfl ?_
    refine s_iload dX4_isWorth_75 rfl ?_
    refine s_iload dX4_isWorth_77 rfl ?_
    refine s_iconst (v := 3) dX4_isWorth_79 (by decide) ?_
    refine s_imul dX4_isWorth_80 ?_
    refine s_isub dX4_isWorth_81 ?_
    refine s_istore (lv' := [(11, .int (v2 - ((v2 / (3 : Int32)) * (3 : Int32)))), (10, .int (v2 / (3 : Int32))), (9, .int v2), (0, .ref x0), (1, .ref x1), (3, .int x3), (4, .ref x4), (5, .int x5), (6, .int x6), (7, .int x7), (8, .int x8)]) dX4_isWorth_82 (by decide) rfl ?_
    refine s_aload_n dX4_isWorth_84 rfl ?_
    refine s_gR dX4_isWorth_85 fX4_25 fun v3 => ?_
    refine s_iconst (v := 3) dX4_isWorth_88 (by decide) ?_
    refine s_dup2 dX4_isWorth_89 rfl rfl ?_
    refine s_aI dX4_isWorth_90 fun v4 => ?_
    refine s_iload dX4_isWorth_91 rfl ?_
    refine s_iadd dX4_isWorth_93 ?_
    refine s_sI dX4_isWorth_94 ?_
    refine s_aload_n dX4_isWorth_95 rfl ?_
    refine s_gR dX4_isWorth_96 fX4_25 fun v5 => ?_
    refine s_iload dX4_isWorth_99 rfl ?_
    refine s_dup2 dX4_isWorth_101 rfl rfl ?_
    refine s_aI dX4_isWorth_102 fun v6 => ?_
    refine s_iconst (v := 1) dX4_isWorth_103 (by decide) ?_
    refine s_iadd dX4_isWorth_104 ?_
    refine s_sI dX4_isWorth_105 ?_
    refine s_aload_n dX4_isWorth_106 rfl ?_
    refine s_gI dX4_isWorth_107 fX4_32 fun v7 => ?_
    refine s_iload dX4_isWorth_110 rfl ?_
    refine s_staticNI (as := [.int v7, .int x8]) (rest := []) dX4_isWorth_112 sX4_120 (CX11_isSet _ _) (Nat.le_of_ble_eq_true rfl) ⟨Nat.le_refl _, Nat.le_refl _⟩ fun v8 => ?_
    refine s_if_eq (tgt := 144) dX4_isWorth_115 (by decide) (fun c2 => ?_) (fun c2 => ?_)
    · refine s_iinc (lv' := [(8, .int (x8 + 1)), (11, .int (v2 - ((v2 / (3 : Int32)) * (3 : Int32)))), (10, .int (v2 / (3 : Int32))), (9, .int v2), (0, .ref x0), (1, .ref x1), (3, .int x3), (4, .ref x4), (5, .int x5), (6, .int x6), (7, .int x7)]) dX4_isWorth_144 rfl (by decide) rfl ?_
      refine s_goto (tgt := 50) dX4_isWorth_147 (by decide) ?_
      refine s_locals [4, 5, 6, 7, 8, 9, 10, 0] rfl ?_
      exact hR x0 x1 x3 x4 x5 x6 x7 (x8 + 1)
    · refine s_iload dX4_isWorth_118 rfl ?_
      refine s_iload dX4_isWorth_120 rfl ?_
      refine s_iadd dX4_isWorth_122 ?_
      refine s_istore (lv' := [(6, .int (x6 + v2)), (11, .int (v2 - ((v2 / (3 : Int32)) * (3 : Int32)))), (10, .int (v2 / (3 : Int32))), (9, .int v2), (0, .ref x0), (1, .ref x1), (3, .int x3), (4, .ref x4), (5, .int x5), (7, .int x7), (8, .int x8)]) dX4_isWorth_123 (by decide) rfl ?_
      refine s_iload dX4_isWorth_125 rfl ?_
      refine s_iload dX4_isWorth_127 rfl ?_
      refine s_if_ne (tgt := 137) dX4_isWorth_129 (by decide) (fun c3 => ?_) (fun c3 => ?_)
      · refine s_iload dX4_isWorth_132 rfl ?_
        refine s_goto (tgt := 141) dX4_isWorth_134 (by decide) ?_
        refine s_locals [4, 5, 6, 7, 8, 0, 10] rfl ?_
        exact UX4_isWorth_141_ok hR hK150 x0 x1 x3 x4 x5 (x6 + v2) x8 x7 (v2 / (3 : Int32))
      · refine s_iload dX4_isWorth_137 rfl ?_
        refine s_iconst (v := 1) dX4_isWorth_139 (by decide) ?_
        refine s_iadd dX4_isWorth_140 ?_
        refine s_locals [4, 5, 6, 7, 8, 0, 10] rfl ?_
        exact UX4_isWorth_141_ok hR hK150 x0 x1 x3 x4 x5 (x6 + v2) x8 x7 ((v2 / (3 : Int32)) + (1 : Int32))
def WX4_isWorth_50 (K150 : Nat → Int32 → Nat → Int32 → Int32 → Int32 → qP Int32) : Nat → Nat → Nat → Int32 → Nat → Int32 → Int32 → Int32 → Int32 → qP Int32
  | 0 => fun _ _ _ _ _ _ _ _ => qfail
  | N + 1 => fun x0 x1 x3 x4 x5 x6 x7 x8 => UX4_isWorth_50 (WX4_isWorth_50 K150 N) K150 x0 x1 x3 x4 x5 x6 x7 x8
theorem WX4_isWorth_50_ok {l : Launch} {g : qG} {d n : Nat} {K150 : Nat → Int32 → Nat → Int32 → Int32 → Int32 → qP Int32} (hK150 : ∀ (x0 : Nat) (x3 : Int32) (x4 : Nat) (x5 : Int32) (x6 : Int32) (x7 : Int32), qS l g mX4_isWorth (d + 2) n 0 0 0 0 cvI 150 [(0, .ref x0), (3, .int x3), (4, .ref x4), (5, .int x5), (6, .int x6), (7, .int x7)] [] (K150 x0 x3 x4 x5 x6 x7)) : ∀ (N : Nat) (x0 : Nat) (x1 : Nat) (x3 : Int32) (x4 : Nat) (x5 : Int32) (x6 : Int32) (x7 : Int32) (x8 : Int32), qS l g mX4_isWorth (d + 2) n 0 0 0 0 cvI 50 [(0, .ref x0), (1, .ref x1), (3, .int x3), (4, .ref x4), (5, .int x5), (6, .int x6), (7, .int x7), (8, .int x8)] [] (WX4_isWorth_50 K150 N x0 x1 x3 x4 x5 x6 x7 x8) := by
  intro N
  induction N with
  | zero => intro x0 x1 x3 x4 x5 x6 x7 x8; exact s_fail
  | succ N ih => intro x0 x1 x3 x4 x5 x6 x7 x8; exact UX4_isWorth_50_ok ih hK150 x0 x1 x3 x4 x5 x6 x7 x8
def UX4_isWorth_150 (x0 : Nat) (x3 : Int32) (x4 : Nat) (x5 : Int32) (x6 : Int32) (x7 : Int32) : qP Int32 :=
qb (qcl 4 x0) fun _ => qb (FX4_mostSewable x0 x4 x5) fun v1 =>
if x5 < x7 then (
qr (0 : Int32)) else (
if v1 < x6 then (
qr (0 : Int32)) else (
qb (gI 4 x0 6) fun v2 =>
if (x3 + v1) ≤ v2 then (
qr (0 : Int32)) else (
qr (1 : Int32))))
set_option maxRecDepth 100000 in
set_option maxHeartbeats 4000000 in
theorem UX4_isWorth_150_ok {l : Launch} {g : qG} {d n : Nat} (x0 : Nat) (x3 : Int32) (x4 : Nat) (x5 : Int32) (x6 : Int32) (x7 : Int32) : qS l g mX4_isWorth (d + 2) n 0 0 0 0 cvI 150 [(0, .ref x0), (3, .int x3), (4, .ref x4), (5, .int x5), (6, .int x6), (7, .int x7)] [] (UX4_isWorth_150 x0 x3 x4 x5 x6 x7) := by
  unfold UX4_isWorth_150
  refine s_aload_n dX4_isWorth_150 rfl ?_
  refine s_aload dX4_isWorth_151 rfl ?_
  refine s_iload dX4_isWorth_153 rfl ?_
  refine s_virtI (as := [.ref x4, .int x5]) (rest := []) dX4_isWorth_155 vX4_124 (CX4_mostSewable _ _ _) (Nat.le_of_ble_eq_true rfl) ⟨Nat.le_refl _, Nat.le_refl _⟩ fun v1 => ?_
  refine s_istore (lv' := [(8, .int v1), (0, .ref x0), (3, .int x3), (4, .ref x4), (5, .int x5), (6, .int x6), (7, .int x7)]) dX4_isWorth_158 (by decide) rfl ?_
  refine s_iload dX4_isWorth_160 rfl ?_
  refine s_iload dX4_isWorth_162 rfl ?_
  refine s_icmp_gt (tgt := 189) dX4_isWorth_164 (by decide) (fun c1 => ?_) (fun c1 => ?_)
  · refine s_iconst (v := 0) dX4_isWorth_189 (by decide) ?_
    exact s_ireturn dX4_isWorth_190 rfl (by decide)
  · refine s_iload dX4_isWorth_167 rfl ?_
    refine s_iload dX4_isWorth_169 rfl ?_
    refine s_icmp_gt (tgt := 189) dX4_isWorth_171 (by decide) (fun c2 => ?_) (fun c2 => ?_)
    · refine s_iconst (v := 0) dX4_isWorth_189 (by decide) ?_
      exact s_ireturn dX4_isWorth_190 rfl (by decide)
    · refine s_iload_n dX4_isWorth_174 rfl ?_
      refine s_iload dX4_isWorth_175 rfl ?_
      refine s_iadd dX4_isWorth_177 ?_
      refine s_aload_n dX4_isWorth_178 rfl ?_
      refine s_gI dX4_isWorth_179 fX4_35 fun v2 => ?_
      refine s_icmp_le (tgt := 189) dX4_isWorth_182 (by decide) (fun c3 => ?_) (fun c3 => ?_)
      · refine s_iconst (v := 0) dX4_isWorth_189 (by decide) ?_
        exact s_ireturn dX4_isWorth_190 rfl (by decide)
      · refine s_iconst (v := 1) dX4_isWorth_185 (by decide) ?_
        refine s_goto (tgt := 190) dX4_isWorth_186 (by decide) ?_
        exact s_ireturn dX4_isWorth_190 rfl (by decide)
def UX4_isWorth_17 (x0 : Nat) (x1 : Nat) (x2 : Int32) (x3 : Int32) : qP Int32 :=
qb (gR 4 x0 0) fun v1 =>
qb (aQ 2 v1 x2) fun y => qb (qso y) fun v2 =>
qb (gI 4 x0 4) fun v3 =>
qb (gR 4 x0 3) fun v4 =>
qb (FJ7_fill_53178 v4 (0 : Int32)) fun v5 =>
WX4_isWorth_50 (UX4_isWorth_150) 1000000 x0 x1 x3 v2 (v3 - x2) (0 : Int32) (0 : Int32) (0 : Int32)
set_option maxRecDepth 100000 in
set_option maxHeartbeats 4000000 in
theorem UX4_isWorth_17_ok {l : Launch} {g : qG} {d n : Nat} (x0 : Nat) (x1 : Nat) (x2 : Int32) (x3 : Int32) : qS l g mX4_isWorth (d + 2) n 0 0 0 0 cvI 17 [(0, .ref x0), (1, .ref x1), (2, .int x2), (3, .int x3)] [] (UX4_isWorth_17 x0 x1 x2 x3) := by
  unfold UX4_isWorth_17
  refine s_aload_n dX4_isWorth_17 rfl ?_
  refine s_gR dX4_isWorth_18 fX4_13 fun v1 => ?_
  refine s_iload_n dX4_isWorth_21 rfl ?_
  refine s_aR (by decide) dX4_isWorth_22 fun v2 => ?_
  refine s_astore (lv' := [(4, .ref v2), (0, .ref x0), (1, .ref x1), (2, .int x2), (3, .int x3)]) dX4_isWorth_23 (by decide) rfl ?_
  refine s_aload_n dX4_isWorth_25 rfl ?_
  refine s_gI dX4_isWorth_26 fX4_28 fun v3 => ?_
  refine s_iload_n dX4_isWorth_29 rfl ?_
  refine s_isub dX4_isWorth_30 ?_
  refine s_istore (lv' := [(5, .int (v3 - x2)), (4, .ref v2), (0, .ref x0), (1, .ref x1), (2, .int x2), (3, .int x3)]) dX4_isWorth_31 (by decide) rfl ?_
  refine s_iconst (v := 0) dX4_isWorth_33 (by decide) ?_
  refine s_istore (lv' := [(6, .int (0 : Int32)), (5, .int (v3 - x2)), (4, .ref v2), (0, .ref x0), (1, .ref x1), (2, .int x2), (3, .int x3)]) dX4_isWorth_34 (by decide) rfl ?_
  refine s_iconst (v := 0) dX4_isWorth_36 (by decide) ?_
  refine s_istore (lv' := [(7, .int (0 : Int32)), (6, .int (0 : Int32)), (5, .int (v3 - x2)), (4, .ref v2), (0, .ref x0), (1, .ref x1), (2, .int x2), (3, .int x3)]) dX4_isWorth_37 (by decide) rfl ?_
  refine s_aload_n dX4_isWorth_39 rfl ?_
  refine s_gR dX4_isWorth_40 fX4_25 fun v4 => ?_
  refine s_iconst (v := 0) dX4_isWorth_43 (by decide) ?_
  refine s_staticV (as := [.ref v4, .int (0 : Int32)]) (rest := []) dX4_isWorth_44 sX4_108 (CJ7_fill_53178 _ _) (Nat.le_of_ble_eq_true rfl) ⟨Nat.le_refl _, Nat.le_refl _⟩ fun v5 => ?_
  refine s_iconst (v := 0) dX4_isWorth_47 (by decide) ?_
  refine s_istore (lv' := [(8, .int (0 : Int32)), (7, .int (0 : Int32)), (6, .int (0 : Int32)), (5, .int (v3 - x2)), (4, .ref v2), (0, .ref x0), (1, .ref x1), (2, .int x2), (3, .int x3)]) dX4_isWorth_48 (by decide) rfl ?_
  refine s_locals [5, 6, 8, 4, 3, 2, 1, 0] rfl ?_
  exact WX4_isWorth_50_ok (UX4_isWorth_150_ok) 1000000 x0 x1 x3 v2 (v3 - x2) (0 : Int32) (0 : Int32) (0 : Int32)
def FX4_isWorth (x0 : Nat) (x1 : Nat) (x2 : Int32) (x3 : Int32) : qP Int32 :=
qb (gI 4 x0 8) fun v1 =>
if v1 = 0 then (
UX4_isWorth_17 x0 x1 x2 x3) else (
qb (gI 4 x0 6) fun v2 =>
if v2 = (-1 : Int32) then (
UX4_isWorth_17 x0 x1 x2 x3) else (
qr (0 : Int32)))
set_option maxRecDepth 100000 in
set_option maxHeartbeats 4000000 in
theorem FX4_isWorth_ok {l : Launch} {g : qG} {d n : Nat} (x0 : Nat) (x1 : Nat) (x2 : Int32) (x3 : Int32) : qS l g mX4_isWorth (d + 2) n 0 0 0 0 cvI 0 [(0, .ref x0), (1, .ref x1), (2, .int x2), (3, .int x3)] [] (FX4_isWorth x0 x1 x2 x3) := by
  unfold FX4_isWorth
  refine s_aload_n dX4_isWorth_0 rfl ?_
  refine s_gI dX4_isWorth_1 fX4_41 fun v1 => ?_
  refine s_if_eq (tgt := 17) dX4_isWorth_4 (by decide) (fun c1 => ?_) (fun c1 => ?_)
  · exact UX4_isWorth_17_ok x0 x1 x2 x3
  · refine s_aload_n dX4_isWorth_7 rfl ?_
    refine s_gI dX4_isWorth_8 fX4_35 fun v2 => ?_
    refine s_iconst (v := -1) dX4_isWorth_11 (by decide) ?_
    refine s_icmp_eq (tgt := 17) dX4_isWorth_12 (by decide) (fun c2 => ?_) (fun c2 => ?_)
    · exact UX4_isWorth_17_ok x0 x1 x2 x3
    · refine s_iconst (v := 0) dX4_isWorth_15 (by decide) ?_
      exact s_ireturn dX4_isWorth_16 rfl (by decide)
theorem CX4_isWorth {l : Launch} {g : qG} {d : Nat} (x0 : Nat) (x1 : Nat) (x2 : Int32) (x3 : Int32) : qCt l g mX4_isWorth (d + 2) 0 0 cvI [.ref x0, .ref x1, .int x2, .int x3] (FX4_isWorth x0 x1 x2 x3) := s_of pn_X4 (Nat.le_of_ble_eq_true rfl) fun n => FX4_isWorth_ok x0 x1 x2 x3
def UX4_tryFrom_200 (S : Nat → Nat → Int32 → Int32 → qP Unit) (R : Nat → Nat → Int32 → Int32 → Nat → Nat → Int32 → Int32 → qP Unit) (x0 : Nat) (x1 : Nat) (x2 : Int32) (x3 : Int32) (x4 : Nat) (x5 : Nat) (x7 : Int32) : qP Unit :=
R x0 x1 x2 x3 x4 x5 (1 : Int32) (x7 + 1)
set_option maxRecDepth 100000 in
set_option maxHeartbeats 4000000 in
theorem UX4_tryFrom_200_ok {l : Launch} {g : qG} {d n : Nat} {S : Nat → Nat → Int32 → Int32 → qP Unit} (hS : ∀ (x0 : Nat) (x1 : Nat) (x2 : Int32) (x3 : Int32), qCt l g mX4_tryFrom (d + 4) 0 0 cvV [.ref x0, .ref x1, .int x2, .int x3] (S x0 x1 x2 x3)) {R : Nat → Nat → Int32 → Int32 → Nat → Nat → Int32 → Int32 → qP Unit} (hR : ∀ (x0 : Nat) (x1 : Nat) (x2 : Int32) (x3 : Int32) (x4 : Nat) (x5 : Nat) (x6 : Int32) (x7 : Int32), qS l g mX4_tryFrom (d + 5) n 0 0 0 0 cvV 74 [(0, .ref x0), (1, .ref x1), (2, .int x2), (3, .int x3), (4, .ref x4), (5, .ref x5), (6, .int x6), (7, .int x7)] [] (R x0 x1 x2 x3 x4 x5 x6 x7)) (x0 : Nat) (x1 : Nat) (x2 : Int32) (x3 : Int32) (x4 : Nat) (x5 : Nat) (x7 : Int32) : qS l g mX4_tryFrom (d + 5) n 0 0 0 0 cvV 200 [(0, .ref x0), (1, .ref x1), (2, .int x2), (3, .int x3), (4, .ref x4), (5, .ref x5), (7, .int x7)] [] (UX4_tryFrom_200 S R x0 x1 x2 x3 x4 x5 x7) := by
  unfold UX4_tryFrom_200
  refine s_iconst (v := 1) dX4_tryFrom_200 (by decide) ?_
  refine s_goto (tgt := 205) dX4_tryFrom_201 (by decide) ?_
  refine s_istore (lv' := [(6, .int (1 : Int32)), (0, .ref x0), (1, .ref x1), (2, .int x2), (3, .int x3), (4, .ref x4), (5, .ref x5), (7, .int x7)]) dX4_tryFrom_205 (by decide) rfl ?_
  refine s_iinc (lv' := [(7, .int (x7 + 1)), (6, .int (1 : Int32)), (0, .ref x0), (1, .ref x1), (2, .int x2), (3, .int x3), (4, .ref x4), (5, .ref x5)]) dX4_tryFrom_207 rfl (by decide) rfl ?_
  refine s_goto (tgt := 74) dX4_tryFrom_210 (by decide) ?_
  refine s_locals [2, 3, 4, 5, 6, 7, 1, 0] rfl ?_
  exact hR x0 x1 x2 x3 x4 x5 (1 : Int32) (x7 + 1)
def UX4_tryFrom_190 (S : Nat → Nat → Int32 → Int32 → qP Unit) (R : Nat → Nat → Int32 → Int32 → Nat → Nat → Int32 → Int32 → qP Unit) (x0 : Nat) (x1 : Nat) (x2 : Int32) (x3 : Int32) (x4 : Nat) (x5 : Nat) (x6 : Int32) (x7 : Int32) (x9 : Int32) : qP Unit :=
if x6 = 0 then (
if x9 = 0 then (
R x0 x1 x2 x3 x4 x5 (0 : Int32) (x7 + 1)) else (
UX4_tryFrom_200 S R x0 x1 x2 x3 x4 x5 x7)) else (
UX4_tryFrom_200 S R x0 x1 x2 x3 x4 x5 x7)
set_option maxRecDepth 100000 in
set_option maxHeartbeats 4000000 in
theorem UX4_tryFrom_190_ok {l : Launch} {g : qG} {d n : Nat} {S : Nat → Nat → Int32 → Int32 → qP Unit} (hS : ∀ (x0 : Nat) (x1 : Nat) (x2 : Int32) (x3 : Int32), qCt l g mX4_tryFrom (d + 4) 0 0 cvV [.ref x0, .ref x1, .int x2, .int x3] (S x0 x1 x2 x3)) {R : Nat → Nat → Int32 → Int32 → Nat → Nat → Int32 → Int32 → qP Unit} (hR : ∀ (x0 : Nat) (x1 : Nat) (x2 : Int32) (x3 : Int32) (x4 : Nat) (x5 : Nat) (x6 : Int32) (x7 : Int32), qS l g mX4_tryFrom (d + 5) n 0 0 0 0 cvV 74 [(0, .ref x0), (1, .ref x1), (2, .int x2), (3, .int x3), (4, .ref x4), (5, .ref x5), (6, .int x6), (7, .int x7)] [] (R x0 x1 x2 x3 x4 x5 x6 x7)) (x0 : Nat) (x1 : Nat) (x2 : Int32) (x3 : Int32) (x4 : Nat) (x5 : Nat) (x6 : Int32) (x7 : Int32) (x9 : Int32) : qS l g mX4_tryFrom (d + 5) n 0 0 0 0 cvV 190 [(0, .ref x0), (1, .ref x1), (2, .int x2), (3, .int x3), (4, .ref x4), (5, .ref x5), (6, .int x6), (7, .int x7), (9, .int x9)] [] (UX4_tryFrom_190 S R x0 x1 x2 x3 x4 x5 x6 x7 x9) := by
  unfold UX4_tryFrom_190
  refine s_iload dX4_tryFrom_190 rfl ?_
  refine s_if_ne (tgt := 200) dX4_tryFrom_192 (by decide) (fun c1 => ?_) (fun c1 => ?_)
  · refine s_iload dX4_tryFrom_195 rfl ?_
    refine s_if_eq (tgt := 204) dX4_tryFrom_197 (by decide) (fun c2 => ?_) (fun c2 => ?_)
    · refine s_iconst (v := 0) dX4_tryFrom_204 (by decide) ?_
      refine s_istore (lv' := [(6, .int (0 : Int32)), (0, .ref x0), (1, .ref x1), (2, .int x2), (3, .int x3), (4, .ref x4), (5, .ref x5), (7, .int x7), (9, .int x9)]) dX4_tryFrom_205 (by decide) rfl ?_
      refine s_iinc (lv' := [(7, .int (x7 + 1)), (6, .int (0 : Int32)), (0, .ref x0), (1, .ref x1), (2, .int x2), (3, .int x3), (4, .ref x4), (5, .ref x5), (9, .int x9)]) dX4_tryFrom_207 rfl (by decide) rfl ?_
      refine s_goto (tgt := 74) dX4_tryFrom_210 (by decide) ?_
      refine s_locals [2, 3, 4, 5, 6, 7, 1, 0] rfl ?_
      exact hR x0 x1 x2 x3 x4 x5 (0 : Int32) (x7 + 1)
    · refine s_locals [0, 1, 2, 3, 4, 5, 7] rfl ?_
      exact UX4_tryFrom_200_ok hS hR x0 x1 x2 x3 x4 x5 x7
  · refine s_locals [0, 1, 2, 3, 4, 5, 7] rfl ?_
    exact UX4_tryFrom_200_ok hS hR x0 x1 x2 x3 x4 x5 x7
def UX4_tryFrom_187 (S : Nat → Nat → Int32 → Int32 → qP Unit) (R : Nat → Nat → Int32 → Int32 → Nat → Nat → Int32 → Int32 → qP Unit) (x0 : Nat) (x1 : Nat) (x2 : Int32) (x3 : Int32) (x4 : Nat) (x5 : Nat) (x6 : Int32) (x7 : Int32) (x9 : Int32) (s0 : Nat) (s1 : Nat) (s2 : Int32) (s3 : Int32) : qP Unit :=
qb (qcl 4 s0) fun _ => qb (S s0 s1 s2 s3) fun v1 =>
UX4_tryFrom_190 S R x0 x1 x2 x3 x4 x5 x6 x7 x9
set_option maxRecDepth 100000 in
set_option maxHeartbeats 4000000 in
theorem UX4_tryFrom_187_ok {l : Launch} {g : qG} {d n : Nat} {S : Nat → Nat → Int32 → Int32 → qP Unit} (hS : ∀ (x0 : Nat) (x1 : Nat) (x2 : Int32) (x3 : Int32), qCt l g mX4_tryFrom (d + 4) 0 0 cvV [.ref x0, .ref x1, .int x2, .int x3] (S x0 x1 x2 x3)) {R : Nat → Nat → Int32 → Int32 → Nat → Nat → Int32 → Int32 → qP Unit} (hR : ∀ (x0 : Nat) (x1 : Nat) (x2 : Int32) (x3 : Int32) (x4 : Nat) (x5 : Nat) (x6 : Int32) (x7 : Int32), qS l g mX4_tryFrom (d + 5) n 0 0 0 0 cvV 74 [(0, .ref x0), (1, .ref x1), (2, .int x2), (3, .int x3), (4, .ref x4), (5, .ref x5), (6, .int x6), (7, .int x7)] [] (R x0 x1 x2 x3 x4 x5 x6 x7)) (x0 : Nat) (x1 : Nat) (x2 : Int32) (x3 : Int32) (x4 : Nat) (x5 : Nat) (x6 : Int32) (x7 : Int32) (x9 : Int32) (s0 : Nat) (s1 : Nat) (s2 : Int32) (s3 : Int32) : qS l g mX4_tryFrom (d + 5) n 0 0 0 0 cvV 187 [(0, .ref x0), (1, .ref x1), (2, .int x2), (3, .int x3), (4, .ref x4), (5, .ref x5), (6, .int x6), (7, .int x7), (9, .int x9)] [.int s3, .int s2, .ref s1, .ref s0] (UX4_tryFrom_187 S R x0 x1 x2 x3 x4 x5 x6 x7 x9 s0 s1 s2 s3) := by
  unfold UX4_tryFrom_187
  refine s_virtV (as := [.ref s1, .int s2, .int s3]) (rest := []) dX4_tryFrom_187 vX4_80 (hS _ _ _ _) (Nat.le_of_ble_eq_true rfl) ⟨Nat.le_refl _, Nat.le_refl _⟩ fun v1 => ?_
  exact UX4_tryFrom_190_ok hS hR x0 x1 x2 x3 x4 x5 x6 x7 x9
def UX4_tryFrom_157 (S : Nat → Nat → Int32 → Int32 → qP Unit) (R : Nat → Nat → Int32 → Int32 → Nat → Nat → Int32 → Int32 → qP Unit) (x0 : Nat) (x1 : Nat) (x2 : Int32) (x3 : Int32) (x4 : Nat) (x5 : Nat) (x6 : Int32) (x7 : Int32) (x8 : Int32) (x9 : Int32) : qP Unit :=
qb (gR 4 x0 1) fun v1 =>
qb (sI v1 x2 x7) fun _ =>
qb (qcl 2 x1) fun _ => qb (FX2_isSewing x1 x7) fun v2 =>
if v2 = 0 then (
UX4_tryFrom_187 S R x0 x1 x2 x3 x4 x5 x6 x7 x9 x0 x1 (x2 + (1 : Int32)) x3) else (
UX4_tryFrom_187 S R x0 x1 x2 x3 x4 x5 x6 x7 x9 x0 x1 (x2 + (1 : Int32)) (x3 + x8))
set_option maxRecDepth 100000 in
set_option maxHeartbeats 4000000 in
theorem UX4_tryFrom_157_ok {l : Launch} {g : qG} {d n : Nat} {S : Nat → Nat → Int32 → Int32 → qP Unit} (hS : ∀ (x0 : Nat) (x1 : Nat) (x2 : Int32) (x3 : Int32), qCt l g mX4_tryFrom (d + 4) 0 0 cvV [.ref x0, .ref x1, .int x2, .int x3] (S x0 x1 x2 x3)) {R : Nat → Nat → Int32 → Int32 → Nat → Nat → Int32 → Int32 → qP Unit} (hR : ∀ (x0 : Nat) (x1 : Nat) (x2 : Int32) (x3 : Int32) (x4 : Nat) (x5 : Nat) (x6 : Int32) (x7 : Int32), qS l g mX4_tryFrom (d + 5) n 0 0 0 0 cvV 74 [(0, .ref x0), (1, .ref x1), (2, .int x2), (3, .int x3), (4, .ref x4), (5, .ref x5), (6, .int x6), (7, .int x7)] [] (R x0 x1 x2 x3 x4 x5 x6 x7)) (x0 : Nat) (x1 : Nat) (x2 : Int32) (x3 : Int32) (x4 : Nat) (x5 : Nat) (x6 : Int32) (x7 : Int32) (x8 : Int32) (x9 : Int32) : qS l g mX4_tryFrom (d + 5) n 0 0 0 0 cvV 157 [(0, .ref x0), (1, .ref x1), (2, .int x2), (3, .int x3), (4, .ref x4), (5, .ref x5), (6, .int x6), (7, .int x7), (8, .int x8), (9, .int x9)] [] (UX4_tryFrom_157 S R x0 x1 x2 x3 x4 x5 x6 x7 x8 x9) := by
  unfold UX4_tryFrom_157
  refine s_aload_n dX4_tryFrom_157 rfl ?_
  refine s_gR dX4_tryFrom_158 fX4_18 fun v1 => ?_
  refine s_iload_n dX4_tryFrom_161 rfl ?_
  refine s_iload dX4_tryFrom_162 rfl ?_
  refine s_sI dX4_tryFrom_164 ?_
  refine s_aload_n dX4_tryFrom_165 rfl ?_
  refine s_aload_n dX4_tryFrom_166 rfl ?_
  refine s_iload_n dX4_tryFrom_167 rfl ?_
  refine s_iconst (v := 1) dX4_tryFrom_168 (by decide) ?_
  refine s_iadd dX4_tryFrom_169 ?_
  refine s_aload_n dX4_tryFrom_170 rfl ?_
  refine s_iload dX4_tryFrom_171 rfl ?_
  refine s_virtI (as := [.int x7]) (rest := [.int (x2 + (1 : Int32)), .ref x1, .ref x0]) dX4_tryFrom_173 vX4_105 (CX2_isSewing _ _) (Nat.le_of_ble_eq_true rfl) ⟨Nat.le_refl _, Nat.le_refl _⟩ fun v2 => ?_
  refine s_if_eq (tgt := 186) dX4_tryFrom_176 (by decide) (fun c1 => ?_) (fun c1 => ?_)
  · refine s_iload_n dX4_tryFrom_186 rfl ?_
    refine s_locals [0, 1, 2, 3, 4, 5, 6, 7, 9] rfl ?_
    exact UX4_tryFrom_187_ok hS hR x0 x1 x2 x3 x4 x5 x6 x7 x9 x0 x1 (x2 + (1 : Int32)) x3
  · refine s_iload_n dX4_tryFrom_179 rfl ?_
    refine s_iload dX4_tryFrom_180 rfl ?_
    refine s_iadd dX4_tryFrom_182 ?_
    refine s_goto (tgt := 187) dX4_tryFrom_183 (by decide) ?_
    refine s_locals [0, 1, 2, 3, 4, 5, 6, 7, 9] rfl ?_
    exact UX4_tryFrom_187_ok hS hR x0 x1 x2 x3 x4 x5 x6 x7 x9 x0 x1 (x2 + (1 : Int32)) (x3 + x8)
def UX4_tryFrom_145 (S : Nat → Nat → Int32 → Int32 → qP Unit) (R : Nat → Nat → Int32 → Int32 → Nat → Nat → Int32 → Int32 → qP Unit) (x0 : Nat) (x1 : Nat) (x2 : Int32) (x3 : Int32) (x4 : Nat) (x5 : Nat) (x6 : Int32) (x7 : Int32) (x8 : Int32) (s0 : Int32) : qP Unit :=
if s0 = 0 then (
UX4_tryFrom_157 S R x0 x1 x2 x3 x4 x5 x6 x7 x8 s0) else (
if x6 = 0 then (
UX4_tryFrom_157 S R x0 x1 x2 x3 x4 x5 x6 x7 x8 s0) else (
UX4_tryFrom_190 S R x0 x1 x2 x3 x4 x5 x6 x7 s0))
set_option maxRecDepth 100000 in
set_option maxHeartbeats 4000000 in
theorem UX4_tryFrom_145_ok {l : Launch} {g : qG} {d n : Nat} {S : Nat → Nat → Int32 → Int32 → qP Unit} (hS : ∀ (x0 : Nat) (x1 : Nat) (x2 : Int32) (x3 : Int32), qCt l g mX4_tryFrom (d + 4) 0 0 cvV [.ref x0, .ref x1, .int x2, .int x3] (S x0 x1 x2 x3)) {R : Nat → Nat → Int32 → Int32 → Nat → Nat → Int32 → Int32 → qP Unit} (hR : ∀ (x0 : Nat) (x1 : Nat) (x2 : Int32) (x3 : Int32) (x4 : Nat) (x5 : Nat) (x6 : Int32) (x7 : Int32), qS l g mX4_tryFrom (d + 5) n 0 0 0 0 cvV 74 [(0, .ref x0), (1, .ref x1), (2, .int x2), (3, .int x3), (4, .ref x4), (5, .ref x5), (6, .int x6), (7, .int x7)] [] (R x0 x1 x2 x3 x4 x5 x6 x7)) (x0 : Nat) (x1 : Nat) (x2 : Int32) (x3 : Int32) (x4 : Nat) (x5 : Nat) (x6 : Int32) (x7 : Int32) (x8 : Int32) (s0 : Int32) : qS l g mX4_tryFrom (d + 5) n 0 0 0 0 cvV 145 [(0, .ref x0), (1, .ref x1), (2, .int x2), (3, .int x3), (4, .ref x4), (5, .ref x5), (6, .int x6), (7, .int x7), (8, .int x8)] [.int s0] (UX4_tryFrom_145 S R x0 x1 x2 x3 x4 x5 x6 x7 x8 s0) := by
  unfold UX4_tryFrom_145
  refine s_istore (lv' := [(9, .int s0), (0, .ref x0), (1, .ref x1), (2, .int x2), (3, .int x3), (4, .ref x4), (5, .ref x5), (6, .int x6), (7, .int x7), (8, .int x8)]) dX4_tryFrom_145 (by decide) rfl ?_
  refine s_iload dX4_tryFrom_147 rfl ?_
  refine s_if_eq (tgt := 157) dX4_tryFrom_149 (by decide) (fun c1 => ?_) (fun c1 => ?_)
  · refine s_locals [1, 2, 3, 4, 5, 6, 7, 8, 9, 0] rfl ?_
    exact UX4_tryFrom_157_ok hS hR x0 x1 x2 x3 x4 x5 x6 x7 x8 s0
  · refine s_iload dX4_tryFrom_152 rfl ?_
    refine s_if_ne (tgt := 190) dX4_tryFrom_154 (by decide) (fun c2 => ?_) (fun c2 => ?_)
    · refine s_locals [1, 2, 3, 4, 5, 6, 7, 8, 9, 0] rfl ?_
      exact UX4_tryFrom_157_ok hS hR x0 x1 x2 x3 x4 x5 x6 x7 x8 s0
    · refine s_locals [1, 2, 3, 4, 5, 6, 7, 8, 0] rfl ?_
      exact UX4_tryFrom_190_ok hS hR x0 x1 x2 x3 x4 x5 x6 x7 s0
def UX4_tryFrom_74 (S : Nat → Nat → Int32 → Int32 → qP Unit) (R : Nat → Nat → Int32 → Int32 → Nat → Nat → Int32 → Int32 → qP Unit) (x0 : Nat) (x1 : Nat) (x2 : Int32) (x3 : Int32) (x4 : Nat) (x5 : Nat) (x6 : Int32) (x7 : Int32) : qP Unit :=
if (7 : Int32) < x7 then (
qr ()) else (
qb (qcl 2 x1) fun _ => qb (FX2_hasNight x1 x7) fun v1 =>
if v1 = 0 then (
R x0 x1 x2 x3 x4 x5 x6 (x7 + 1)) else (
qb (cp x4 (0 : Int32) x5 (0 : Int32) (10 : Int32)) fun _ =>
qb (qcl 2 x1) fun _ => qb (FX2_pass x1 x5 x7) fun v2 =>
qb (aI x5 (7 : Int32)) fun v3 =>
qb (aI x4 (7 : Int32)) fun v4 =>
if v3 = v4 then (
qb (aI x5 (8 : Int32)) fun v5 =>
qb (aI x4 (8 : Int32)) fun v6 =>
if v5 = v6 then (
UX4_tryFrom_145 S R x0 x1 x2 x3 x4 x5 x6 x7 v2 (1 : Int32)) else (
UX4_tryFrom_145 S R x0 x1 x2 x3 x4 x5 x6 x7 v2 (0 : Int32))) else (
UX4_tryFrom_145 S R x0 x1 x2 x3 x4 x5 x6 x7 v2 (0 : Int32))))
set_option maxRecDepth 100000 in
set_option maxHeartbeats 4000000 in
theorem UX4_tryFrom_74_ok {l : Launch} {g : qG} {d n : Nat} {S : Nat → Nat → Int32 → Int32 → qP Unit} (hS : ∀ (x0 : Nat) (x1 : Nat) (x2 : Int32) (x3 : Int32), qCt l g mX4_tryFrom (d + 4) 0 0 cvV [.ref x0, .ref x1, .int x2, .int x3] (S x0 x1 x2 x3)) {R : Nat → Nat → Int32 → Int32 → Nat → Nat → Int32 → Int32 → qP Unit} (hR : ∀ (x0 : Nat) (x1 : Nat) (x2 : Int32) (x3 : Int32) (x4 : Nat) (x5 : Nat) (x6 : Int32) (x7 : Int32), qS l g mX4_tryFrom (d + 5) n 0 0 0 0 cvV 74 [(0, .ref x0), (1, .ref x1), (2, .int x2), (3, .int x3), (4, .ref x4), (5, .ref x5), (6, .int x6), (7, .int x7)] [] (R x0 x1 x2 x3 x4 x5 x6 x7)) (x0 : Nat) (x1 : Nat) (x2 : Int32) (x3 : Int32) (x4 : Nat) (x5 : Nat) (x6 : Int32) (x7 : Int32) : qS l g mX4_tryFrom (d + 5) n 0 0 0 0 cvV 74 [(0, .ref x0), (1, .ref x1), (2, .int x2), (3, .int x3), (4, .ref x4), (5, .ref x5), (6, .int x6), (7, .int x7)] [] (UX4_tryFrom_74 S R x0 x1 x2 x3 x4 x5 x6 x7) := by
  unfold UX4_tryFrom_74
  refine s_iload dX4_tryFrom_74 rfl ?_
  refine s_bipush (v := 7) dX4_tryFrom_76 (by decide) ?_
  refine s_icmp_gt (tgt := 213) dX4_tryFrom_78 (by decide) (fun c1 => ?_) (fun c1 => ?_)
  · exact s_return dX4_tryFrom_213 rfl
  · refine s_aload_n dX4_tryFrom_81 rfl ?_
    refine s_iload dX4_tryFrom_82 rfl ?_
    refine s_virtI (as := [.int x7]) (rest := []) dX4_tryFrom_84 vX4_101 (CX2_hasNight _ _) (Nat.le_of_ble_eq_true rfl) ⟨Nat.le_refl _, Nat.le_refl _⟩ fun v1 => ?_
    refine s_if_ne (tgt := 93) dX4_tryFrom_87 (by decide) (fun c2 => ?_) (fun c2 => ?_)
    · refine s_goto (tgt := 207) dX4_tryFrom_90 (by decide) ?_
      refine s_iinc (lv' := [(7, .int (x7 + 1)), (0, .ref x0), (1, .ref x1), (2, .int x2), (3, .int x3), (4, .ref x4), (5, .ref x5), (6, .int x6)]) dX4_tryFrom_207 rfl (by decide) rfl ?_
      refine s_goto (tgt := 74) dX4_tryFrom_210 (by decide) ?_
      refine s_locals [1, 2, 3, 4, 5, 6, 7, 0] rfl ?_
      exact hR x0 x1 x2 x3 x4 x5 x6 (x7 + 1)
    · refine s_aload dX4_tryFrom_93 rfl ?_
      refine s_iconst (v := 0) dX4_tryFrom_95 (by decide) ?_
      refine s_aload dX4_tryFrom_96 rfl ?_
      refine s_iconst (v := 0) dX4_tryFrom_98 (by decide) ?_
      refine s_bipush (v := 10) dX4_tryFrom_99 (by decide) ?_
      refine s_copy dX4_tryFrom_101 aX4_91 kw_an kw_as kw_ai (Nat.le_of_ble_eq_true rfl) ?_
      refine s_aload_n dX4_tryFrom_104 rfl ?_
      refine s_aload dX4_tryFrom_105 rfl ?_
      refine s_iload dX4_tryFrom_107 rfl ?_
      refine s_virtI (as := [.ref x5, .int x7]) (rest := []) dX4_tryFrom_109 vX4_84 (CX2_pass _ _ _) (Nat.le_of_ble_eq_true rfl) ⟨Nat.le_refl _, Nat.le_refl _⟩ fun v2 => ?_
      refine s_istore (lv' := [(8, .int v2), (0, .ref x0), (1, .ref x1), (2, .int x2), (3, .int x3), (4, .ref x4), (5, .ref x5), (6, .int x6), (7, .int x7)]) dX4_tryFrom_112 (by decide) rfl ?_
      refine s_aload dX4_tryFrom_114 rfl ?_
      refine s_bipush (v := 7) dX4_tryFrom_116 (by decide) ?_
      refine s_aI dX4_tryFrom_118 fun v3 => ?_
      refine s_aload dX4_tryFrom_119 rfl ?_
      refine s_bipush (v := 7) dX4_tryFrom_121 (by decide) ?_
      refine s_aI dX4_tryFrom_123 fun v4 => ?_
      refine s_icmp_ne (tgt := 144) dX4_tryFrom_124 (by decide) (fun c3 => ?_) (fun c3 => ?_)
      · refine s_aload dX4_tryFrom_127 rfl ?_
        refine s_bipush (v := 8) dX4_tryFrom_129 (by decide) ?_
        refine s_aI dX4_tryFrom_131 fun v5 => ?_
        refine s_aload dX4_tryFrom_132 rfl ?_
        refine s_bipush (v := 8) dX4_tryFrom_134 (by decide) ?_
        refine s_aI dX4_tryFrom_136 fun v6 => ?_
        refine s_icmp_ne (tgt := 144) dX4_tryFrom_137 (by decide) (fun c4 => ?_) (fun c4 => ?_)
        · refine s_iconst (v := 1) dX4_tryFrom_140 (by decide) ?_
          refine s_goto (tgt := 145) dX4_tryFrom_141 (by decide) ?_
          refine s_locals [1, 2, 3, 4, 5, 6, 7, 8, 0] rfl ?_
          exact UX4_tryFrom_145_ok hS hR x0 x1 x2 x3 x4 x5 x6 x7 v2 (1 : Int32)
        · refine s_iconst (v := 0) dX4_tryFrom_144 (by decide) ?_
          refine s_locals [1, 2, 3, 4, 5, 6, 7, 8, 0] rfl ?_
          exact UX4_tryFrom_145_ok hS hR x0 x1 x2 x3 x4 x5 x6 x7 v2 (0 : Int32)
      · refine s_iconst (v := 0) dX4_tryFrom_144 (by decide) ?_
        refine s_locals [1, 2, 3, 4, 5, 6, 7, 8, 0] rfl ?_
        exact UX4_tryFrom_145_ok hS hR x0 x1 x2 x3 x4 x5 x6 x7 v2 (0 : Int32)
def WX4_tryFrom_74 (S : Nat → Nat → Int32 → Int32 → qP Unit) : Nat → Nat → Nat → Int32 → Int32 → Nat → Nat → Int32 → Int32 → qP Unit
  | 0 => fun _ _ _ _ _ _ _ _ => qfail
  | N + 1 => fun x0 x1 x2 x3 x4 x5 x6 x7 => UX4_tryFrom_74 S (WX4_tryFrom_74 S  N)  x0 x1 x2 x3 x4 x5 x6 x7
theorem WX4_tryFrom_74_ok {l : Launch} {g : qG} {d n : Nat} {S : Nat → Nat → Int32 → Int32 → qP Unit} (hS : ∀ (x0 : Nat) (x1 : Nat) (x2 : Int32) (x3 : Int32), qCt l g mX4_tryFrom (d + 4) 0 0 cvV [.ref x0, .ref x1, .int x2, .int x3] (S x0 x1 x2 x3)) : ∀ (N : Nat) (x0 : Nat) (x1 : Nat) (x2 : Int32) (x3 : Int32) (x4 : Nat) (x5 : Nat) (x6 : Int32) (x7 : Int32), qS l g mX4_tryFrom (d + 5) n 0 0 0 0 cvV 74 [(0, .ref x0), (1, .ref x1), (2, .int x2), (3, .int x3), (4, .ref x4), (5, .ref x5), (6, .int x6), (7, .int x7)] [] (WX4_tryFrom_74 S  N x0 x1 x2 x3 x4 x5 x6 x7) := by
  intro N
  induction N with
  | zero => intro x0 x1 x2 x3 x4 x5 x6 x7; exact s_fail
  | succ N ih => intro x0 x1 x2 x3 x4 x5 x6 x7; exact UX4_tryFrom_74_ok hS ih  x0 x1 x2 x3 x4 x5 x6 x7
def GX4_tryFrom (S : Nat → Nat → Int32 → Int32 → qP Unit) (x0 : Nat) (x1 : Nat) (x2 : Int32) (x3 : Int32) : qP Unit :=
qb (gI 4 x0 4) fun v1 =>
if v1 < x2 then (
qr ()) else (
qb (qcl 4 x0) fun _ => qb (FX4_isWorth x0 x1 x2 x3) fun v2 =>
if v2 = 0 then (
qr ()) else (
qb (gI 4 x0 4) fun v3 =>
if x2 = v3 then (
qb (pV 4 x0 6 (.int x3)) fun _ =>
qb (gR 4 x0 1) fun v4 =>
qb (gR 4 x0 2) fun v5 =>
qb (gI 4 x0 4) fun v6 =>
qb (cp v4 (0 : Int32) v5 (0 : Int32) v6) fun _ =>
qr ()) else (
qb (gR 4 x0 0) fun v7 =>
qb (aQ 2 v7 x2) fun y => qb (qso y) fun v8 =>
qb (gR 4 x0 0) fun v9 =>
qb (aQ 2 v9 (x2 + (1 : Int32))) fun y => qb (qso y) fun v10 =>
WX4_tryFrom_74 S 1000000 x0 x1 x2 x3 v8 v10 (0 : Int32) (0 : Int32))))
set_option maxRecDepth 100000 in
set_option maxHeartbeats 4000000 in
theorem GX4_tryFrom_ok {l : Launch} {g : qG} {d n : Nat} {S : Nat → Nat → Int32 → Int32 → qP Unit} (hS : ∀ (x0 : Nat) (x1 : Nat) (x2 : Int32) (x3 : Int32), qCt l g mX4_tryFrom (d + 4) 0 0 cvV [.ref x0, .ref x1, .int x2, .int x3] (S x0 x1 x2 x3)) (x0 : Nat) (x1 : Nat) (x2 : Int32) (x3 : Int32) : qS l g mX4_tryFrom (d + 5) n 0 0 0 0 cvV 0 [(0, .ref x0), (1, .ref x1), (2, .int x2), (3, .int x3)] [] (GX4_tryFrom S x0 x1 x2 x3) := by
  unfold GX4_tryFrom
  refine s_iload_n dX4_tryFrom_0 rfl ?_
  refine s_aload_n dX4_tryFrom_1 rfl ?_
  refine s_gI dX4_tryFrom_2 fX4_28 fun v1 => ?_
  refine s_icmp_gt (tgt := 18) dX4_tryFrom_5 (by decide) (fun c1 => ?_) (fun c1 => ?_)
  · exact s_return dX4_tryFrom_18 rfl
  · refine s_aload_n dX4_tryFrom_8 rfl ?_
    refine s_aload_n dX4_tryFrom_9 rfl ?_
    refine s_iload_n dX4_tryFrom_10 rfl ?_
    refine s_iload_n dX4_tryFrom_11 rfl ?_
    refine s_virtI (as := [.ref x1, .int x2, .int x3]) (rest := []) dX4_tryFrom_12 vX4_97 (CX4_isWorth _ _ _ _) (Nat.le_of_ble_eq_true rfl) ⟨Nat.le_refl _, Nat.le_refl _⟩ fun v2 => ?_
    refine s_if_ne (tgt := 19) dX4_tryFrom_15 (by decide) (fun c2 => ?_) (fun c2 => ?_)
    · exact s_return dX4_tryFrom_18 rfl
    · refine s_iload_n dX4_tryFrom_19 rfl ?_
      refine s_aload_n dX4_tryFrom_20 rfl ?_
      refine s_gI dX4_tryFrom_21 fX4_28 fun v3 => ?_
      refine s_icmp_ne (tgt := 50) dX4_tryFrom_24 (by decide) (fun c3 => ?_) (fun c3 => ?_)
      · refine s_aload_n dX4_tryFrom_27 rfl ?_
        refine s_iload_n dX4_tryFrom_28 rfl ?_
        refine s_put dX4_tryFrom_29 fX4_35 rfl rfl ?_
        refine s_aload_n dX4_tryFrom_32 rfl ?_
        refine s_gR dX4_tryFrom_33 fX4_18 fun v4 => ?_
        refine s_iconst (v := 0) dX4_tryFrom_36 (by decide) ?_
        refine s_aload_n dX4_tryFrom_37 rfl ?_
        refine s_gR dX4_tryFrom_38 fX4_22 fun v5 => ?_
        refine s_iconst (v := 0) dX4_tryFrom_41 (by decide) ?_
        refine s_aload_n dX4_tryFrom_42 rfl ?_
        refine s_gI dX4_tryFrom_43 fX4_28 fun v6 => ?_
        refine s_copy dX4_tryFrom_46 aX4_91 kw_an kw_as kw_ai (Nat.le_of_ble_eq_true rfl) ?_
        exact s_return dX4_tryFrom_49 rfl
      · refine s_aload_n dX4_tryFrom_50 rfl ?_
        refine s_gR dX4_tryFrom_51 fX4_13 fun v7 => ?_
        refine s_iload_n dX4_tryFrom_54 rfl ?_
        refine s_aR (by decide) dX4_tryFrom_55 fun v8 => ?_
        refine s_astore (lv' := [(4, .ref v8), (0, .ref x0), (1, .ref x1), (2, .int x2), (3, .int x3)]) dX4_tryFrom_56 (by decide) rfl ?_
        refine s_aload_n dX4_tryFrom_58 rfl ?_
        refine s_gR dX4_tryFrom_59 fX4_13 fun v9 => ?_
        refine s_iload_n dX4_tryFrom_62 rfl ?_
        refine s_iconst (v := 1) dX4_tryFrom_63 (by decide) ?_
        refine s_iadd dX4_tryFrom_64 ?_
        refine s_aR (by decide) dX4_tryFrom_65 fun v10 => ?_
        refine s_astore (lv' := [(5, .ref v10), (4, .ref v8), (0, .ref x0), (1, .ref x1), (2, .int x2), (3, .int x3)]) dX4_tryFrom_66 (by decide) rfl ?_
        refine s_iconst (v := 0) dX4_tryFrom_68 (by decide) ?_
        refine s_istore (lv' := [(6, .int (0 : Int32)), (5, .ref v10), (4, .ref v8), (0, .ref x0), (1, .ref x1), (2, .int x2), (3, .int x3)]) dX4_tryFrom_69 (by decide) rfl ?_
        refine s_iconst (v := 0) dX4_tryFrom_71 (by decide) ?_
        refine s_istore (lv' := [(7, .int (0 : Int32)), (6, .int (0 : Int32)), (5, .ref v10), (4, .ref v8), (0, .ref x0), (1, .ref x1), (2, .int x2), (3, .int x3)]) dX4_tryFrom_72 (by decide) rfl ?_
        refine s_locals [4, 5, 6, 7, 3, 2, 1, 0] rfl ?_
        exact WX4_tryFrom_74_ok hS  1000000 x0 x1 x2 x3 v8 v10 (0 : Int32) (0 : Int32)
def FX4_tryFrom : Nat → Nat → Nat → Int32 → Int32 → qP Unit
  | 0 => fun _ _ _ _ => qfail
  | N + 1 => fun x0 x1 x2 x3 => GX4_tryFrom (FX4_tryFrom N) x0 x1 x2 x3
theorem CX4_tryFrom {l : Launch} {g : qG} : ∀ (N d : Nat) (x0 : Nat) (x1 : Nat) (x2 : Int32) (x3 : Int32), qCt l g mX4_tryFrom (d + 4 + N) 0 0 cvV [.ref x0, .ref x1, .int x2, .int x3] (FX4_tryFrom N x0 x1 x2 x3) := by
  intro N
  induction N with
  | zero => intro d x0 x1 x2 x3 h v h' e; cases e
  | succ N ih => intro d x0 x1 x2 x3; rw [show d + 4 + (N + 1) = d + N + 5 by omega]; exact s_of pn_X4 (Nat.le_of_ble_eq_true rfl) fun n => GX4_tryFrom_ok (d := d + N) (fun yx0 yx1 yx2 yx3 => by have := ih d yx0 yx1 yx2 yx3; rw [show d + N + 4 = d + 4 + N by omega]; exact this) x0 x1 x2 x3
def UX4_search_42 (R : Nat → Nat → Int32 → Int32 → Int32 → qP Int32) (K94 : Nat → Nat → Int32 → Int32 → qP Int32) (x0 : Nat) (x1 : Nat) (x2 : Int32) (x5 : Int32) (x6 : Int32) : qP Int32 :=
if x2 ≤ x6 then (
K94 x0 x1 x2 x5) else (
qb (gR 2 x1 0) fun v1 =>
qb (gR 2 x1 1) fun v2 =>
qb (aI v2 x5) fun v3 =>
qb (aQ 0 v1 v3) fun y => qb (qso y) fun v4 =>
qb (gR 2 x1 6) fun v5 =>
qb (aI v5 (9 : Int32)) fun v6 =>
qb (D_picks v4 (v6 + x6)) fun v7 =>
qb (gI 4 x0 7) fun v8 =>
qb (pV 4 x0 7 (.int (if v8 < v7 then v7 else v8))) fun _ =>
R x0 x1 x2 x5 (x6 + 1))
set_option maxRecDepth 100000 in
set_option maxHeartbeats 4000000 in
theorem UX4_search_42_ok {l : Launch} {g : qG} {d n : Nat} {R : Nat → Nat → Int32 → Int32 → Int32 → qP Int32} (hR : ∀ (x0 : Nat) (x1 : Nat) (x2 : Int32) (x5 : Int32) (x6 : Int32), qS l g mX4_search (d + 12) n 0 0 0 0 cvI 42 [(0, .ref x0), (1, .ref x1), (2, .int x2), (5, .int x5), (6, .int x6)] [] (R x0 x1 x2 x5 x6)) {K94 : Nat → Nat → Int32 → Int32 → qP Int32} (hK94 : ∀ (x0 : Nat) (x1 : Nat) (x2 : Int32) (x5 : Int32), qS l g mX4_search (d + 12) n 0 0 0 0 cvI 94 [(0, .ref x0), (1, .ref x1), (2, .int x2), (5, .int x5)] [] (K94 x0 x1 x2 x5)) (x0 : Nat) (x1 : Nat) (x2 : Int32) (x5 : Int32) (x6 : Int32) : qS l g mX4_search (d + 12) n 0 0 0 0 cvI 42 [(0, .ref x0), (1, .ref x1), (2, .int x2), (5, .int x5), (6, .int x6)] [] (UX4_search_42 R K94 x0 x1 x2 x5 x6) := by
  unfold UX4_search_42
  refine s_iload dX4_search_42 rfl ?_
  refine s_iload_n dX4_search_44 rfl ?_
  refine s_icmp_ge (tgt := 94) dX4_search_45 (by decide) (fun c1 => ?_) (fun c1 => ?_)
  · refine s_locals [0, 1, 2, 3] rfl ?_
    exact hK94 x0 x1 x2 x5
  · refine s_aload_n dX4_search_48 rfl ?_
    refine s_gR dX4_search_49 fX4_58 fun v1 => ?_
    refine s_aload_n dX4_search_52 rfl ?_
    refine s_gR dX4_search_53 fX4_62 fun v2 => ?_
    refine s_iload dX4_search_56 rfl ?_
    refine s_aI dX4_search_58 fun v3 => ?_
    refine s_aR (by decide) dX4_search_59 fun v4 => ?_
    refine s_aload_n dX4_search_60 rfl ?_
    refine s_gR dX4_search_61 fX4_65 fun v5 => ?_
    refine s_bipush (v := 9) dX4_search_64 (by decide) ?_
    refine s_aI dX4_search_66 fun v6 => ?_
    refine s_iload dX4_search_67 rfl ?_
    refine s_iadd dX4_search_69 ?_
    refine s_over (as := [.int (v6 + x6)]) (rest := []) dX4_search_70 (OX4_68 _ _) (Nat.le_of_ble_eq_true rfl) ⟨Nat.le_refl _, Nat.le_refl _⟩ fun v7 => ?_
    refine s_istore (lv' := [(7, .int v7), (0, .ref x0), (1, .ref x1), (2, .int x2), (5, .int x5), (6, .int x6)]) dX4_search_73 (by decide) rfl ?_
    refine s_aload_n dX4_search_75 rfl ?_
    refine s_aload_n dX4_search_76 rfl ?_
    refine s_gI dX4_search_77 fX4_38 fun v8 => ?_
    refine s_iload dX4_search_80 rfl ?_
    refine s_max dX4_search_82 tX4_74 kw_xs kw_mi kw_xc (Nat.le_of_ble_eq_true rfl) ⟨Nat.le_refl _, Nat.le_refl _⟩ ?_
    refine s_put dX4_search_85 fX4_38 rfl rfl ?_
    refine s_iinc (lv' := [(6, .int (x6 + 1)), (7, .int v7), (0, .ref x0), (1, .ref x1), (2, .int x2), (5, .int x5)]) dX4_search_88 rfl (by decide) rfl ?_
    refine s_goto (tgt := 42) dX4_search_91 (by decide) ?_
    refine s_locals [2, 3, 4, 5, 0] rfl ?_
    exact hR x0 x1 x2 x5 (x6 + 1)
def WX4_search_42 (K94 : Nat → Nat → Int32 → Int32 → qP Int32) : Nat → Nat → Nat → Int32 → Int32 → Int32 → qP Int32
  | 0 => fun _ _ _ _ _ => qfail
  | N + 1 => fun x0 x1 x2 x5 x6 => UX4_search_42 (WX4_search_42 K94 N) K94 x0 x1 x2 x5 x6
theorem WX4_search_42_ok {l : Launch} {g : qG} {d n : Nat} {K94 : Nat → Nat → Int32 → Int32 → qP Int32} (hK94 : ∀ (x0 : Nat) (x1 : Nat) (x2 : Int32) (x5 : Int32), qS l g mX4_search (d + 12) n 0 0 0 0 cvI 94 [(0, .ref x0), (1, .ref x1), (2, .int x2), (5, .int x5)] [] (K94 x0 x1 x2 x5)) : ∀ (N : Nat) (x0 : Nat) (x1 : Nat) (x2 : Int32) (x5 : Int32) (x6 : Int32), qS l g mX4_search (d + 12) n 0 0 0 0 cvI 42 [(0, .ref x0), (1, .ref x1), (2, .int x2), (5, .int x5), (6, .int x6)] [] (WX4_search_42 K94 N x0 x1 x2 x5 x6) := by
  intro N
  induction N with
  | zero => intro x0 x1 x2 x5 x6; exact s_fail
  | succ N ih => intro x0 x1 x2 x5 x6; exact UX4_search_42_ok ih hK94 x0 x1 x2 x5 x6
def UX4_search_94 (R : Nat → Nat → Int32 → Int32 → qP Int32) (K100 : Nat → Nat → qP Int32) (x0 : Nat) (x1 : Nat) (x2 : Int32) (x5 : Int32) : qP Int32 :=
R x0 x1 x2 (x5 + 1)
set_option maxRecDepth 100000 in
set_option maxHeartbeats 4000000 in
theorem UX4_search_94_ok {l : Launch} {g : qG} {d n : Nat} {R : Nat → Nat → Int32 → Int32 → qP Int32} (hR : ∀ (x0 : Nat) (x1 : Nat) (x2 : Int32) (x5 : Int32), qS l g mX4_search (d + 12) n 0 0 0 0 cvI 30 [(0, .ref x0), (1, .ref x1), (2, .int x2), (5, .int x5)] [] (R x0 x1 x2 x5)) {K100 : Nat → Nat → qP Int32} (hK100 : ∀ (x0 : Nat) (x1 : Nat), qS l g mX4_search (d + 12) n 0 0 0 0 cvI 100 [(0, .ref x0), (1, .ref x1)] [] (K100 x0 x1)) (x0 : Nat) (x1 : Nat) (x2 : Int32) (x5 : Int32) : qS l g mX4_search (d + 12) n 0 0 0 0 cvI 94 [(0, .ref x0), (1, .ref x1), (2, .int x2), (5, .int x5)] [] (UX4_search_94 R K100 x0 x1 x2 x5) := by
  unfold UX4_search_94
  refine s_iinc (lv' := [(5, .int (x5 + 1)), (0, .ref x0), (1, .ref x1), (2, .int x2)]) dX4_search_94 rfl (by decide) rfl ?_
  refine s_goto (tgt := 30) dX4_search_97 (by decide) ?_
  refine s_locals [1, 2, 3, 0] rfl ?_
  exact hR x0 x1 x2 (x5 + 1)
def UX4_search_30 (R : Nat → Nat → Int32 → Int32 → qP Int32) (K100 : Nat → Nat → qP Int32) (x0 : Nat) (x1 : Nat) (x2 : Int32) (x5 : Int32) : qP Int32 :=
qb (gI 2 x1 4) fun v1 =>
if v1 ≤ x5 then (
K100 x0 x1) else (
WX4_search_42 (UX4_search_94 R K100) 1000000 x0 x1 x2 x5 (0 : Int32))
set_option maxRecDepth 100000 in
set_option maxHeartbeats 4000000 in
theorem UX4_search_30_ok {l : Launch} {g : qG} {d n : Nat} {R : Nat → Nat → Int32 → Int32 → qP Int32} (hR : ∀ (x0 : Nat) (x1 : Nat) (x2 : Int32) (x5 : Int32), qS l g mX4_search (d + 12) n 0 0 0 0 cvI 30 [(0, .ref x0), (1, .ref x1), (2, .int x2), (5, .int x5)] [] (R x0 x1 x2 x5)) {K100 : Nat → Nat → qP Int32} (hK100 : ∀ (x0 : Nat) (x1 : Nat), qS l g mX4_search (d + 12) n 0 0 0 0 cvI 100 [(0, .ref x0), (1, .ref x1)] [] (K100 x0 x1)) (x0 : Nat) (x1 : Nat) (x2 : Int32) (x5 : Int32) : qS l g mX4_search (d + 12) n 0 0 0 0 cvI 30 [(0, .ref x0), (1, .ref x1), (2, .int x2), (5, .int x5)] [] (UX4_search_30 R K100 x0 x1 x2 x5) := by
  unfold UX4_search_30
  refine s_iload dX4_search_30 rfl ?_
  refine s_aload_n dX4_search_32 rfl ?_
  refine s_gI dX4_search_33 fX4_55 fun v1 => ?_
  refine s_icmp_ge (tgt := 100) dX4_search_36 (by decide) (fun c1 => ?_) (fun c1 => ?_)
  · refine s_locals [0, 1] rfl ?_
    exact hK100 x0 x1
  · refine s_iconst (v := 0) dX4_search_39 (by decide) ?_
    refine s_istore (lv' := [(6, .int (0 : Int32)), (0, .ref x0), (1, .ref x1), (2, .int x2), (5, .int x5)]) dX4_search_40 (by decide) rfl ?_
    refine s_locals [1, 2, 3, 4, 0] rfl ?_
    exact WX4_search_42_ok (UX4_search_94_ok hR hK100) 1000000 x0 x1 x2 x5 (0 : Int32)
def WX4_search_30 (K100 : Nat → Nat → qP Int32) : Nat → Nat → Nat → Int32 → Int32 → qP Int32
  | 0 => fun _ _ _ _ => qfail
  | N + 1 => fun x0 x1 x2 x5 => UX4_search_30 (WX4_search_30 K100 N) K100 x0 x1 x2 x5
theorem WX4_search_30_ok {l : Launch} {g : qG} {d n : Nat} {K100 : Nat → Nat → qP Int32} (hK100 : ∀ (x0 : Nat) (x1 : Nat), qS l g mX4_search (d + 12) n 0 0 0 0 cvI 100 [(0, .ref x0), (1, .ref x1)] [] (K100 x0 x1)) : ∀ (N : Nat) (x0 : Nat) (x1 : Nat) (x2 : Int32) (x5 : Int32), qS l g mX4_search (d + 12) n 0 0 0 0 cvI 30 [(0, .ref x0), (1, .ref x1), (2, .int x2), (5, .int x5)] [] (WX4_search_30 K100 N x0 x1 x2 x5) := by
  intro N
  induction N with
  | zero => intro x0 x1 x2 x5; exact s_fail
  | succ N ih => intro x0 x1 x2 x5; exact UX4_search_30_ok ih hK100 x0 x1 x2 x5
def UX4_search_100 (x0 : Nat) (x1 : Nat) : qP Int32 :=
qb (qcl 4 x0) fun _ => qb (FX4_tryFrom 7 x0 x1 (0 : Int32) (0 : Int32)) fun v1 =>
qb (gI 4 x0 6) fun v2 =>
qr v2
set_option maxRecDepth 100000 in
set_option maxHeartbeats 4000000 in
theorem UX4_search_100_ok {l : Launch} {g : qG} {d n : Nat} (x0 : Nat) (x1 : Nat) : qS l g mX4_search (d + 12) n 0 0 0 0 cvI 100 [(0, .ref x0), (1, .ref x1)] [] (UX4_search_100 x0 x1) := by
  unfold UX4_search_100
  refine s_aload_n dX4_search_100 rfl ?_
  refine s_aload_n dX4_search_101 rfl ?_
  refine s_iconst (v := 0) dX4_search_102 (by decide) ?_
  refine s_iconst (v := 0) dX4_search_103 (by decide) ?_
  refine s_virtV (as := [.ref x1, .int (0 : Int32), .int (0 : Int32)]) (rest := []) dX4_search_104 vX4_80 (CX4_tryFrom 7 _ _ _ _ _) (Nat.le_of_ble_eq_true rfl) ⟨Nat.le_refl _, Nat.le_refl _⟩ fun v1 => ?_
  refine s_aload_n dX4_search_107 rfl ?_
  refine s_gI dX4_search_108 fX4_35 fun v2 => ?_
  exact s_ireturn dX4_search_111 rfl rfl
def FX4_search (x0 : Nat) (x1 : Nat) (x2 : Int32) (x3 : Int32) (x4 : Int32) : qP Int32 :=
qb (qcl 4 x0) fun _ => qb (FX4_begin x0 x1 x2) fun v1 =>
qb (pV 4 x0 5 (.int x3)) fun _ =>
qgd (x4 = 0 ∨ x4 = 1) (qb (pV 4 x0 8 (.int x4)) fun _ =>
qb (pV 4 x0 6 (.int (-1 : Int32))) fun _ =>
qb (pV 4 x0 7 (.int (0 : Int32))) fun _ =>
WX4_search_30 (UX4_search_100) 1000000 x0 x1 x2 (0 : Int32))
set_option maxRecDepth 100000 in
set_option maxHeartbeats 4000000 in
theorem FX4_search_ok {l : Launch} {g : qG} {d n : Nat} (x0 : Nat) (x1 : Nat) (x2 : Int32) (x3 : Int32) (x4 : Int32) : qS l g mX4_search (d + 12) n 0 0 0 0 cvI 0 [(0, .ref x0), (1, .ref x1), (2, .int x2), (3, .int x3), (4, .int x4)] [] (FX4_search x0 x1 x2 x3 x4) := by
  unfold FX4_search
  refine s_aload_n dX4_search_0 rfl ?_
  refine s_aload_n dX4_search_1 rfl ?_
  refine s_iload_n dX4_search_2 rfl ?_
  refine s_virtV (as := [.ref x1, .int x2]) (rest := []) dX4_search_3 vX4_51 (CX4_begin _ _ _) (Nat.le_of_ble_eq_true rfl) ⟨Nat.le_refl _, Nat.le_refl _⟩ fun v1 => ?_
  refine s_aload_n dX4_search_6 rfl ?_
  refine s_iload_n dX4_search_7 rfl ?_
  refine s_put dX4_search_8 fX4_32 rfl rfl ?_
  refine s_aload_n dX4_search_11 rfl ?_
  refine s_iload dX4_search_12 rfl ?_
  refine s_putZ dX4_search_14 fX4_41 ?_
  refine s_aload_n dX4_search_17 rfl ?_
  refine s_iconst (v := -1) dX4_search_18 (by decide) ?_
  refine s_put dX4_search_19 fX4_35 rfl rfl ?_
  refine s_aload_n dX4_search_22 rfl ?_
  refine s_iconst (v := 0) dX4_search_23 (by decide) ?_
  refine s_put dX4_search_24 fX4_38 rfl rfl ?_
  refine s_iconst (v := 0) dX4_search_27 (by decide) ?_
  refine s_istore (lv' := [(5, .int (0 : Int32)), (0, .ref x0), (1, .ref x1), (2, .int x2), (3, .int x3), (4, .int x4)]) dX4_search_28 (by decide) rfl ?_
  refine s_locals [1, 2, 3, 0] rfl ?_
  exact WX4_search_30_ok (UX4_search_100_ok) 1000000 x0 x1 x2 (0 : Int32)
theorem CX4_search {l : Launch} {g : qG} {d : Nat} (x0 : Nat) (x1 : Nat) (x2 : Int32) (x3 : Int32) (x4 : Int32) : qCt l g mX4_search (d + 12) 0 0 cvI [.ref x0, .ref x1, .int x2, .int x3, .int x4] (FX4_search x0 x1 x2 x3 x4) := s_of pn_X4 (Nat.le_of_ble_eq_true rfl) fun n => FX4_search_ok x0 x1 x2 x3 x4
def FX4_chosen (x0 : Nat) (x1 : Int32) : qP Int32 :=
if x1 < 0 then (
qr (-5 : Int32)) else (
qb (gI 4 x0 4) fun v1 =>
if v1 ≤ x1 then (
qr (-5 : Int32)) else (
qb (gR 4 x0 2) fun v2 =>
qb (aI v2 x1) fun v3 =>
qr v3))
set_option maxRecDepth 100000 in
set_option maxHeartbeats 4000000 in
theorem FX4_chosen_ok {l : Launch} {g : qG} {d n : Nat} (x0 : Nat) (x1 : Int32) : qS l g mX4_chosen d n 0 0 0 0 cvI 0 [(0, .ref x0), (1, .int x1)] [] (FX4_chosen x0 x1) := by
  unfold FX4_chosen
  refine s_iload_n dX4_chosen_0 rfl ?_
  refine s_if_lt (tgt := 21) dX4_chosen_1 (by decide) (fun c1 => ?_) (fun c1 => ?_)
  · refine s_bipush (v := -5) dX4_chosen_21 (by decide) ?_
    exact s_ireturn dX4_chosen_23 rfl rfl
  · refine s_iload_n dX4_chosen_4 rfl ?_
    refine s_aload_n dX4_chosen_5 rfl ?_
    refine s_gI dX4_chosen_6 fX4_28 fun v1 => ?_
    refine s_icmp_ge (tgt := 21) dX4_chosen_9 (by decide) (fun c2 => ?_) (fun c2 => ?_)
    · refine s_bipush (v := -5) dX4_chosen_21 (by decide) ?_
      exact s_ireturn dX4_chosen_23 rfl rfl
    · refine s_aload_n dX4_chosen_12 rfl ?_
      refine s_gR dX4_chosen_13 fX4_22 fun v2 => ?_
      refine s_iload_n dX4_chosen_16 rfl ?_
      refine s_aI dX4_chosen_17 fun v3 => ?_
      refine s_goto (tgt := 23) dX4_chosen_18 (by decide) ?_
      exact s_ireturn dX4_chosen_23 rfl rfl
theorem CX4_chosen {l : Launch} {g : qG} {d : Nat} (x0 : Nat) (x1 : Int32) : qCt l g mX4_chosen d 0 0 cvI [.ref x0, .int x1] (FX4_chosen x0 x1) := s_of pn_X4 (Nat.le_of_ble_eq_true rfl) fun n => FX4_chosen_ok x0 x1
def UX4_behindChosen_11 (R : Nat → Nat → Int32 → qP Nat) (x0 : Nat) (x1 : Nat) (x2 : Int32) : qP Nat :=
qb (gI 4 x0 4) fun v1 =>
if v1 ≤ x2 then (
qb (gR 4 x0 0) fun v2 =>
qb (aQ 2 v2 (0 : Int32)) fun y => qb (qso y) fun v3 =>
qr v3) else (
qb (gR 4 x0 0) fun v4 =>
qb (aQ 2 v4 (0 : Int32)) fun y => qb (qso y) fun v5 =>
qb (gR 4 x0 2) fun v6 =>
qb (aI v6 x2) fun v7 =>
qb (qcl 2 x1) fun _ => qb (FX2_pass x1 v5 v7) fun v8 =>
R x0 x1 (x2 + 1))
set_option maxRecDepth 100000 in
set_option maxHeartbeats 4000000 in
theorem UX4_behindChosen_11_ok {l : Launch} {g : qG} {d n : Nat} {R : Nat → Nat → Int32 → qP Nat} (hR : ∀ (x0 : Nat) (x1 : Nat) (x2 : Int32), qS l g mX4_behindChosen (d + 5) n 0 0 0 0 cvR 11 [(0, .ref x0), (1, .ref x1), (2, .int x2)] [] (R x0 x1 x2)) (x0 : Nat) (x1 : Nat) (x2 : Int32) : qS l g mX4_behindChosen (d + 5) n 0 0 0 0 cvR 11 [(0, .ref x0), (1, .ref x1), (2, .int x2)] [] (UX4_behindChosen_11 R x0 x1 x2) := by
  unfold UX4_behindChosen_11
  refine s_iload_n dX4_behindChosen_11 rfl ?_
  refine s_aload_n dX4_behindChosen_12 rfl ?_
  refine s_gI dX4_behindChosen_13 fX4_28 fun v1 => ?_
  refine s_icmp_ge (tgt := 42) dX4_behindChosen_16 (by decide) (fun c1 => ?_) (fun c1 => ?_)
  · refine s_aload_n dX4_behindChosen_42 rfl ?_
    refine s_gR dX4_behindChosen_43 fX4_13 fun v2 => ?_
    refine s_iconst (v := 0) dX4_behindChosen_46 (by decide) ?_
    refine s_aR (by decide) dX4_behindChosen_47 fun v3 => ?_
    exact s_areturn dX4_behindChosen_48 rfl (Or.inr ⟨_, rfl⟩)
  · refine s_aload_n dX4_behindChosen_19 rfl ?_
    refine s_aload_n dX4_behindChosen_20 rfl ?_
    refine s_gR dX4_behindChosen_21 fX4_13 fun v4 => ?_
    refine s_iconst (v := 0) dX4_behindChosen_24 (by decide) ?_
    refine s_aR (by decide) dX4_behindChosen_25 fun v5 => ?_
    refine s_aload_n dX4_behindChosen_26 rfl ?_
    refine s_gR dX4_behindChosen_27 fX4_22 fun v6 => ?_
    refine s_iload_n dX4_behindChosen_30 rfl ?_
    refine s_aI dX4_behindChosen_31 fun v7 => ?_
    refine s_virtI (as := [.ref v5, .int v7]) (rest := []) dX4_behindChosen_32 vX4_84 (CX2_pass _ _ _) (Nat.le_of_ble_eq_true rfl) ⟨Nat.le_refl _, Nat.le_refl _⟩ fun v8 => ?_
    refine s_pop dX4_behindChosen_35 rfl ?_
    refine s_iinc (lv' := [(2, .int (x2 + 1)), (0, .ref x0), (1, .ref x1)]) dX4_behindChosen_36 rfl (by decide) rfl ?_
    refine s_goto (tgt := 11) dX4_behindChosen_39 (by decide) ?_
    refine s_locals [1, 2, 0] rfl ?_
    exact hR x0 x1 (x2 + 1)
def WX4_behindChosen_11 : Nat → Nat → Nat → Int32 → qP Nat
  | 0 => fun _ _ _ => qfail
  | N + 1 => fun x0 x1 x2 => UX4_behindChosen_11 (WX4_behindChosen_11  N)  x0 x1 x2
theorem WX4_behindChosen_11_ok {l : Launch} {g : qG} {d n : Nat} : ∀ (N : Nat) (x0 : Nat) (x1 : Nat) (x2 : Int32), qS l g mX4_behindChosen (d + 5) n 0 0 0 0 cvR 11 [(0, .ref x0), (1, .ref x1), (2, .int x2)] [] (WX4_behindChosen_11  N x0 x1 x2) := by
  intro N
  induction N with
  | zero => intro x0 x1 x2; exact s_fail
  | succ N ih => intro x0 x1 x2; exact UX4_behindChosen_11_ok ih  x0 x1 x2
def FX4_behindChosen (x0 : Nat) (x1 : Nat) : qP Nat :=
qb (gI 4 x0 4) fun v1 =>
qb (qcl 4 x0) fun _ => qb (FX4_begin x0 x1 v1) fun v2 =>
WX4_behindChosen_11 1000000 x0 x1 (0 : Int32)
set_option maxRecDepth 100000 in
set_option maxHeartbeats 4000000 in
theorem FX4_behindChosen_ok {l : Launch} {g : qG} {d n : Nat} (x0 : Nat) (x1 : Nat) : qS l g mX4_behindChosen (d + 5) n 0 0 0 0 cvR 0 [(0, .ref x0), (1, .ref x1)] [] (FX4_behindChosen x0 x1) := by
  unfold FX4_behindChosen
  refine s_aload_n dX4_behindChosen_0 rfl ?_
  refine s_aload_n dX4_behindChosen_1 rfl ?_
  refine s_aload_n dX4_behindChosen_2 rfl ?_
  refine s_gI dX4_behindChosen_3 fX4_28 fun v1 => ?_
  refine s_virtV (as := [.ref x1, .int v1]) (rest := []) dX4_behindChosen_6 vX4_51 (CX4_begin _ _ _) (Nat.le_of_ble_eq_true rfl) ⟨Nat.le_refl _, Nat.le_refl _⟩ fun v2 => ?_
  refine s_iconst (v := 0) dX4_behindChosen_9 (by decide) ?_
  refine s_istore_n (lv' := [(2, .int (0 : Int32)), (0, .ref x0), (1, .ref x1)]) dX4_behindChosen_10 (by decide) rfl ?_
  refine s_locals [1, 2, 0] rfl ?_
  exact WX4_behindChosen_11_ok  1000000 x0 x1 (0 : Int32)
theorem CX4_behindChosen {l : Launch} {g : qG} {d : Nat} (x0 : Nat) (x1 : Nat) : qCt l g mX4_behindChosen (d + 5) 0 0 cvR [.ref x0, .ref x1] (FX4_behindChosen x0 x1) := s_of pn_X4 (Nat.le_of_ble_eq_true rfl) fun n => FX4_behindChosen_ok x0 x1
def UX4_pickFrom_80 (S : Nat → Nat → Int32 → Int32 → qP Unit) (R : Nat → Nat → Int32 → Int32 → Int32 → qP Unit) (x0 : Nat) (x1 : Nat) (x2 : Int32) (x3 : Int32) (x4 : Int32) : qP Unit :=
qb (gR 4 x0 0) fun v1 =>
qb (aQ 2 v1 x2) fun y => qb (qso y) fun v2 =>
qb (gR 4 x0 0) fun v3 =>
qb (aQ 2 v3 (x2 + (1 : Int32))) fun y => qb (qso y) fun v4 =>
qb (cp v2 (0 : Int32) v4 (0 : Int32) (10 : Int32)) fun _ =>
qb (gR 4 x0 0) fun v5 =>
qb (aQ 2 v5 (x2 + (1 : Int32))) fun y => qb (qso y) fun v6 =>
qb (qcl 2 x1) fun _ => qb (FX2_pass x1 v6 x4) fun v7 =>
qb (qcl 4 x0) fun _ => qb (S x0 x1 (x2 + (1 : Int32)) ((x3 * (8 : Int32)) + x4)) fun v8 =>
R x0 x1 x2 x3 (x4 + 1)
set_option maxRecDepth 100000 in
set_option maxHeartbeats 4000000 in
theorem UX4_pickFrom_80_ok {l : Launch} {g : qG} {d n : Nat} {S : Nat → Nat → Int32 → Int32 → qP Unit} (hS : ∀ (x0 : Nat) (x1 : Nat) (x2 : Int32) (x3 : Int32), qCt l g mX4_pickFrom (d + 4) 0 0 cvV [.ref x0, .ref x1, .int x2, .int x3] (S x0 x1 x2 x3)) {R : Nat → Nat → Int32 → Int32 → Int32 → qP Unit} (hR : ∀ (x0 : Nat) (x1 : Nat) (x2 : Int32) (x3 : Int32) (x4 : Int32), qS l g mX4_pickFrom (d + 5) n 0 0 0 0 cvV 57 [(0, .ref x0), (1, .ref x1), (2, .int x2), (3, .int x3), (4, .int x4)] [] (R x0 x1 x2 x3 x4)) (x0 : Nat) (x1 : Nat) (x2 : Int32) (x3 : Int32) (x4 : Int32) : qS l g mX4_pickFrom (d + 5) n 0 0 0 0 cvV 80 [(0, .ref x0), (1, .ref x1), (2, .int x2), (3, .int x3), (4, .int x4)] [] (UX4_pickFrom_80 S R x0 x1 x2 x3 x4) := by
  unfold UX4_pickFrom_80
  refine s_aload_n dX4_pickFrom_80 rfl ?_
  refine s_gR dX4_pickFrom_81 fX4_13 fun v1 => ?_
  refine s_iload_n dX4_pickFrom_84 rfl ?_
  refine s_aR (by decide) dX4_pickFrom_85 fun v2 => ?_
  refine s_iconst (v := 0) dX4_pickFrom_86 (by decide) ?_
  refine s_aload_n dX4_pickFrom_87 rfl ?_
  refine s_gR dX4_pickFrom_88 fX4_13 fun v3 => ?_
  refine s_iload_n dX4_pickFrom_91 rfl ?_
  refine s_iconst (v := 1) dX4_pickFrom_92 (by decide) ?_
  refine s_iadd dX4_pickFrom_93 ?_
  refine s_aR (by decide) dX4_pickFrom_94 fun v4 => ?_
  refine s_iconst (v := 0) dX4_pickFrom_95 (by decide) ?_
  refine s_bipush (v := 10) dX4_pickFrom_96 (by decide) ?_
  refine s_copy dX4_pickFrom_98 aX4_91 kw_an kw_as kw_ai (Nat.le_of_ble_eq_true rfl) ?_
  refine s_aload_n dX4_pickFrom_101 rfl ?_
  refine s_aload_n dX4_pickFrom_102 rfl ?_
  refine s_gR dX4_pickFrom_103 fX4_13 fun v5 => ?_
  refine s_iload_n dX4_pickFrom_106 rfl ?_
  refine s_iconst (v := 1) dX4_pickFrom_107 (by decide) ?_
  refine s_iadd dX4_pickFrom_108 ?_
  refine s_aR (by decide) dX4_pickFrom_109 fun v6 => ?_
  refine s_iload dX4_pickFrom_110 rfl ?_
  refine s_virtI (as := [.ref v6, .int x4]) (rest := []) dX4_pickFrom_112 vX4_84 (CX2_pass _ _ _) (Nat.le_of_ble_eq_true rfl) ⟨Nat.le_refl _, Nat.le_refl _⟩ fun v7 => ?_
  refine s_pop dX4_pickFrom_115 rfl ?_
  refine s_aload_n dX4_pickFrom_116 rfl ?_
  refine s_aload_n dX4_pickFrom_117 rfl ?_
  refine s_iload_n dX4_pickFrom_118 rfl ?_
  refine s_iconst (v := 1) dX4_pickFrom_119 (by decide) ?_
  refine s_iadd dX4_pickFrom_120 ?_
  refine s_iload_n dX4_pickFrom_121 rfl ?_
  refine s_bipush (v := 8) dX4_pickFrom_122 (by decide) ?_
  refine s_imul dX4_pickFrom_124 ?_
  refine s_iload dX4_pickFrom_125 rfl ?_
  refine s_iadd dX4_pickFrom_127 ?_
  refine s_virtV (as := [.ref x1, .int (x2 + (1 : Int32)), .int ((x3 * (8 : Int32)) + x4)]) (rest := []) dX4_pickFrom_128 vX4_130 (hS _ _ _ _) (Nat.le_of_ble_eq_true rfl) ⟨Nat.le_refl _, Nat.le_refl _⟩ fun v8 => ?_
  refine s_iinc (lv' := [(4, .int (x4 + 1)), (0, .ref x0), (1, .ref x1), (2, .int x2), (3, .int x3)]) dX4_pickFrom_131 rfl (by decide) rfl ?_
  refine s_goto (tgt := 57) dX4_pickFrom_134 (by decide) ?_
  refine s_locals [1, 2, 3, 4, 0] rfl ?_
  exact hR x0 x1 x2 x3 (x4 + 1)
def UX4_pickFrom_57 (S : Nat → Nat → Int32 → Int32 → qP Unit) (R : Nat → Nat → Int32 → Int32 → Int32 → qP Unit) (x0 : Nat) (x1 : Nat) (x2 : Int32) (x3 : Int32) (x4 : Int32) : qP Unit :=
if (7 : Int32) < x4 then (
qr ()) else (
qb (qcl 2 x1) fun _ => qb (FX2_hasPlot x1 x4) fun v1 =>
if v1 = 0 then (
if x4 = (7 : Int32) then (
UX4_pickFrom_80 S R x0 x1 x2 x3 x4) else (
R x0 x1 x2 x3 (x4 + 1))) else (
UX4_pickFrom_80 S R x0 x1 x2 x3 x4))
set_option maxRecDepth 100000 in
set_option maxHeartbeats 4000000 in
theorem UX4_pickFrom_57_ok {l : Launch} {g : qG} {d n : Nat} {S : Nat → Nat → Int32 → Int32 → qP Unit} (hS : ∀ (x0 : Nat) (x1 : Nat) (x2 : Int32) (x3 : Int32), qCt l g mX4_pickFrom (d + 4) 0 0 cvV [.ref x0, .ref x1, .int x2, .int x3] (S x0 x1 x2 x3)) {R : Nat → Nat → Int32 → Int32 → Int32 → qP Unit} (hR : ∀ (x0 : Nat) (x1 : Nat) (x2 : Int32) (x3 : Int32) (x4 : Int32), qS l g mX4_pickFrom (d + 5) n 0 0 0 0 cvV 57 [(0, .ref x0), (1, .ref x1), (2, .int x2), (3, .int x3), (4, .int x4)] [] (R x0 x1 x2 x3 x4)) (x0 : Nat) (x1 : Nat) (x2 : Int32) (x3 : Int32) (x4 : Int32) : qS l g mX4_pickFrom (d + 5) n 0 0 0 0 cvV 57 [(0, .ref x0), (1, .ref x1), (2, .int x2), (3, .int x3), (4, .int x4)] [] (UX4_pickFrom_57 S R x0 x1 x2 x3 x4) := by
  unfold UX4_pickFrom_57
  refine s_iload dX4_pickFrom_57 rfl ?_
  refine s_bipush (v := 7) dX4_pickFrom_59 (by decide) ?_
  refine s_icmp_gt (tgt := 137) dX4_pickFrom_61 (by decide) (fun c1 => ?_) (fun c1 => ?_)
  · exact s_return dX4_pickFrom_137 rfl
  · refine s_aload_n dX4_pickFrom_64 rfl ?_
    refine s_iload dX4_pickFrom_65 rfl ?_
    refine s_virtI (as := [.int x4]) (rest := []) dX4_pickFrom_67 vX4_137 (CX2_hasPlot _ _) (Nat.le_of_ble_eq_true rfl) ⟨Nat.le_refl _, Nat.le_refl _⟩ fun v1 => ?_
    refine s_if_ne (tgt := 80) dX4_pickFrom_70 (by decide) (fun c2 => ?_) (fun c2 => ?_)
    · refine s_iload dX4_pickFrom_73 rfl ?_
      refine s_bipush (v := 7) dX4_pickFrom_75 (by decide) ?_
      refine s_icmp_ne (tgt := 131) dX4_pickFrom_77 (by decide) (fun c3 => ?_) (fun c3 => ?_)
      · exact UX4_pickFrom_80_ok hS hR x0 x1 x2 x3 x4
      · refine s_iinc (lv' := [(4, .int (x4 + 1)), (0, .ref x0), (1, .ref x1), (2, .int x2), (3, .int x3)]) dX4_pickFrom_131 rfl (by decide) rfl ?_
        refine s_goto (tgt := 57) dX4_pickFrom_134 (by decide) ?_
        refine s_locals [1, 2, 3, 4, 0] rfl ?_
        exact hR x0 x1 x2 x3 (x4 + 1)
    · exact UX4_pickFrom_80_ok hS hR x0 x1 x2 x3 x4
def WX4_pickFrom_57 (S : Nat → Nat → Int32 → Int32 → qP Unit) : Nat → Nat → Nat → Int32 → Int32 → Int32 → qP Unit
  | 0 => fun _ _ _ _ _ => qfail
  | N + 1 => fun x0 x1 x2 x3 x4 => UX4_pickFrom_57 S (WX4_pickFrom_57 S  N)  x0 x1 x2 x3 x4
theorem WX4_pickFrom_57_ok {l : Launch} {g : qG} {d n : Nat} {S : Nat → Nat → Int32 → Int32 → qP Unit} (hS : ∀ (x0 : Nat) (x1 : Nat) (x2 : Int32) (x3 : Int32), qCt l g mX4_pickFrom (d + 4) 0 0 cvV [.ref x0, .ref x1, .int x2, .int x3] (S x0 x1 x2 x3)) : ∀ (N : Nat) (x0 : Nat) (x1 : Nat) (x2 : Int32) (x3 : Int32) (x4 : Int32), qS l g mX4_pickFrom (d + 5) n 0 0 0 0 cvV 57 [(0, .ref x0), (1, .ref x1), (2, .int x2), (3, .int x3), (4, .int x4)] [] (WX4_pickFrom_57 S  N x0 x1 x2 x3 x4) := by
  intro N
  induction N with
  | zero => intro x0 x1 x2 x3 x4; exact s_fail
  | succ N ih => intro x0 x1 x2 x3 x4; exact UX4_pickFrom_57_ok hS ih  x0 x1 x2 x3 x4
def UX4_pickFrom_40 (S : Nat → Nat → Int32 → Int32 → qP Unit) (x0 : Nat) (s0 : Nat) (s1 : Int32) : qP Unit :=
qb (pV 4 s0 10 (.int s1)) fun _ =>
qb (gI 4 x0 9) fun v1 =>
qb (pV 4 x0 9 (.int (v1 + (1 : Int32)))) fun _ =>
qr ()
set_option maxRecDepth 100000 in
set_option maxHeartbeats 4000000 in
theorem UX4_pickFrom_40_ok {l : Launch} {g : qG} {d n : Nat} {S : Nat → Nat → Int32 → Int32 → qP Unit} (hS : ∀ (x0 : Nat) (x1 : Nat) (x2 : Int32) (x3 : Int32), qCt l g mX4_pickFrom (d + 4) 0 0 cvV [.ref x0, .ref x1, .int x2, .int x3] (S x0 x1 x2 x3)) (x0 : Nat) (s0 : Nat) (s1 : Int32) : qS l g mX4_pickFrom (d + 5) n 0 0 0 0 cvV 40 [(0, .ref x0)] [.int s1, .ref s0] (UX4_pickFrom_40 S x0 s0 s1) := by
  unfold UX4_pickFrom_40
  refine s_put dX4_pickFrom_40 fX4_48 rfl rfl ?_
  refine s_aload_n dX4_pickFrom_43 rfl ?_
  refine s_dup dX4_pickFrom_44 rfl ?_
  refine s_gI dX4_pickFrom_45 fX4_45 fun v1 => ?_
  refine s_iconst (v := 1) dX4_pickFrom_48 (by decide) ?_
  refine s_iadd dX4_pickFrom_49 ?_
  refine s_put dX4_pickFrom_50 fX4_45 rfl rfl ?_
  exact s_return dX4_pickFrom_53 rfl
def GX4_pickFrom (S : Nat → Nat → Int32 → Int32 → qP Unit) (x0 : Nat) (x1 : Nat) (x2 : Int32) (x3 : Int32) : qP Unit :=
qb (gI 4 x0 4) fun v1 =>
if x2 < v1 then (
WX4_pickFrom_57 S 1000000 x0 x1 x2 x3 (0 : Int32)) else (
qb (gR 4 x0 0) fun v2 =>
qb (gI 4 x0 4) fun v3 =>
qb (aQ 2 v2 v3) fun y => qb (qso y) fun v4 =>
qb (qcl 2 x1) fun _ => qb (FX2_isAsToldBare x1 v4) fun v5 =>
if v5 = 0 then (
qr ()) else (
qb (gI 4 x0 9) fun v6 =>
if v6 = 0 then (
UX4_pickFrom_40 S x0 x0 x3) else (
qb (gI 4 x0 10) fun v7 =>
UX4_pickFrom_40 S x0 x0 v7)))
set_option maxRecDepth 100000 in
set_option maxHeartbeats 4000000 in
theorem GX4_pickFrom_ok {l : Launch} {g : qG} {d n : Nat} {S : Nat → Nat → Int32 → Int32 → qP Unit} (hS : ∀ (x0 : Nat) (x1 : Nat) (x2 : Int32) (x3 : Int32), qCt l g mX4_pickFrom (d + 4) 0 0 cvV [.ref x0, .ref x1, .int x2, .int x3] (S x0 x1 x2 x3)) (x0 : Nat) (x1 : Nat) (x2 : Int32) (x3 : Int32) : qS l g mX4_pickFrom (d + 5) n 0 0 0 0 cvV 0 [(0, .ref x0), (1, .ref x1), (2, .int x2), (3, .int x3)] [] (GX4_pickFrom S x0 x1 x2 x3) := by
  unfold GX4_pickFrom
  refine s_iload_n dX4_pickFrom_0 rfl ?_
  refine s_aload_n dX4_pickFrom_1 rfl ?_
  refine s_gI dX4_pickFrom_2 fX4_28 fun v1 => ?_
  refine s_icmp_lt (tgt := 54) dX4_pickFrom_5 (by decide) (fun c1 => ?_) (fun c1 => ?_)
  · refine s_iconst (v := 0) dX4_pickFrom_54 (by decide) ?_
    refine s_istore (lv' := [(4, .int (0 : Int32)), (0, .ref x0), (1, .ref x1), (2, .int x2), (3, .int x3)]) dX4_pickFrom_55 (by decide) rfl ?_
    refine s_locals [1, 2, 3, 4, 0] rfl ?_
    exact WX4_pickFrom_57_ok hS  1000000 x0 x1 x2 x3 (0 : Int32)
  · refine s_aload_n dX4_pickFrom_8 rfl ?_
    refine s_aload_n dX4_pickFrom_9 rfl ?_
    refine s_gR dX4_pickFrom_10 fX4_13 fun v2 => ?_
    refine s_aload_n dX4_pickFrom_13 rfl ?_
    refine s_gI dX4_pickFrom_14 fX4_28 fun v3 => ?_
    refine s_aR (by decide) dX4_pickFrom_17 fun v4 => ?_
    refine s_virtI (as := [.ref v4]) (rest := []) dX4_pickFrom_18 vX4_133 (CX2_isAsToldBare _ _) (Nat.le_of_ble_eq_true rfl) ⟨Nat.le_refl _, Nat.le_refl _⟩ fun v5 => ?_
    refine s_if_eq (tgt := 53) dX4_pickFrom_21 (by decide) (fun c2 => ?_) (fun c2 => ?_)
    · exact s_return dX4_pickFrom_53 rfl
    · refine s_aload_n dX4_pickFrom_24 rfl ?_
      refine s_aload_n dX4_pickFrom_25 rfl ?_
      refine s_gI dX4_pickFrom_26 fX4_45 fun v6 => ?_
      refine s_if_ne (tgt := 36) dX4_pickFrom_29 (by decide) (fun c3 => ?_) (fun c3 => ?_)
      · refine s_iload_n dX4_pickFrom_32 rfl ?_
        refine s_goto (tgt := 40) dX4_pickFrom_33 (by decide) ?_
        refine s_locals [0] rfl ?_
        exact UX4_pickFrom_40_ok hS x0 x0 x3
      · refine s_aload_n dX4_pickFrom_36 rfl ?_
        refine s_gI dX4_pickFrom_37 fX4_48 fun v7 => ?_
        refine s_locals [0] rfl ?_
        exact UX4_pickFrom_40_ok hS x0 x0 v7
def FX4_pickFrom : Nat → Nat → Nat → Int32 → Int32 → qP Unit
  | 0 => fun _ _ _ _ => qfail
  | N + 1 => fun x0 x1 x2 x3 => GX4_pickFrom (FX4_pickFrom N) x0 x1 x2 x3
theorem CX4_pickFrom {l : Launch} {g : qG} : ∀ (N d : Nat) (x0 : Nat) (x1 : Nat) (x2 : Int32) (x3 : Int32), qCt l g mX4_pickFrom (d + 4 + N) 0 0 cvV [.ref x0, .ref x1, .int x2, .int x3] (FX4_pickFrom N x0 x1 x2 x3) := by
  intro N
  induction N with
  | zero => intro d x0 x1 x2 x3 h v h' e; cases e
  | succ N ih => intro d x0 x1 x2 x3; rw [show d + 4 + (N + 1) = d + N + 5 by omega]; exact s_of pn_X4 (Nat.le_of_ble_eq_true rfl) fun n => GX4_pickFrom_ok (d := d + N) (fun yx0 yx1 yx2 yx3 => by have := ih d yx0 yx1 yx2 yx3; rw [show d + N + 4 = d + 4 + N by omega]; exact this) x0 x1 x2 x3
def FX4_bareRows (x0 : Nat) (x1 : Nat) (x2 : Int32) : qP Int32 :=
qb (qcl 4 x0) fun _ => qb (FX4_begin x0 x1 x2) fun v1 =>
qb (pV 4 x0 9 (.int (0 : Int32))) fun _ =>
qb (pV 4 x0 10 (.int (0 : Int32))) fun _ =>
qb (qcl 4 x0) fun _ => qb (FX4_pickFrom 6 x0 x1 (0 : Int32) (0 : Int32)) fun v2 =>
qb (gI 4 x0 9) fun v3 =>
qr v3
set_option maxRecDepth 100000 in
set_option maxHeartbeats 4000000 in
theorem FX4_bareRows_ok {l : Launch} {g : qG} {d n : Nat} (x0 : Nat) (x1 : Nat) (x2 : Int32) : qS l g mX4_bareRows (d + 11) n 0 0 0 0 cvI 0 [(0, .ref x0), (1, .ref x1), (2, .int x2)] [] (FX4_bareRows x0 x1 x2) := by
  unfold FX4_bareRows
  refine s_aload_n dX4_bareRows_0 rfl ?_
  refine s_aload_n dX4_bareRows_1 rfl ?_
  refine s_iload_n dX4_bareRows_2 rfl ?_
  refine s_virtV (as := [.ref x1, .int x2]) (rest := []) dX4_bareRows_3 vX4_51 (CX4_begin _ _ _) (Nat.le_of_ble_eq_true rfl) ⟨Nat.le_refl _, Nat.le_refl _⟩ fun v1 => ?_
  refine s_aload_n dX4_bareRows_6 rfl ?_
  refine s_iconst (v := 0) dX4_bareRows_7 (by decide) ?_
  refine s_put dX4_bareRows_8 fX4_45 rfl rfl ?_
  refine s_aload_n dX4_bareRows_11 rfl ?_
  refine s_iconst (v := 0) dX4_bareRows_12 (by decide) ?_
  refine s_put dX4_bareRows_13 fX4_48 rfl rfl ?_
  refine s_aload_n dX4_bareRows_16 rfl ?_
  refine s_aload_n dX4_bareRows_17 rfl ?_
  refine s_iconst (v := 0) dX4_bareRows_18 (by decide) ?_
  refine s_iconst (v := 0) dX4_bareRows_19 (by decide) ?_
  refine s_virtV (as := [.ref x1, .int (0 : Int32), .int (0 : Int32)]) (rest := []) dX4_bareRows_20 vX4_130 (CX4_pickFrom 6 _ _ _ _ _) (Nat.le_of_ble_eq_true rfl) ⟨Nat.le_refl _, Nat.le_refl _⟩ fun v2 => ?_
  refine s_aload_n dX4_bareRows_23 rfl ?_
  refine s_gI dX4_bareRows_24 fX4_45 fun v3 => ?_
  exact s_ireturn dX4_bareRows_27 rfl rfl
theorem CX4_bareRows {l : Launch} {g : qG} {d : Nat} (x0 : Nat) (x1 : Nat) (x2 : Int32) : qCt l g mX4_bareRows (d + 11) 0 0 cvI [.ref x0, .ref x1, .int x2] (FX4_bareRows x0 x1 x2) := s_of pn_X4 (Nat.le_of_ble_eq_true rfl) fun n => FX4_bareRows_ok x0 x1 x2
def FX4_firstBare (x0 : Nat) : qP Int32 :=
qb (gI 4 x0 10) fun v1 =>
qr v1
set_option maxRecDepth 100000 in
set_option maxHeartbeats 4000000 in
theorem FX4_firstBare_ok {l : Launch} {g : qG} {d n : Nat} (x0 : Nat) : qS l g mX4_firstBare d n 0 0 0 0 cvI 0 [(0, .ref x0)] [] (FX4_firstBare x0) := by
  unfold FX4_firstBare
  refine s_aload_n dX4_firstBare_0 rfl ?_
  refine s_gI dX4_firstBare_1 fX4_48 fun v1 => ?_
  exact s_ireturn dX4_firstBare_4 rfl rfl
theorem CX4_firstBare {l : Launch} {g : qG} {d : Nat} (x0 : Nat) : qCt l g mX4_firstBare d 0 0 cvI [.ref x0] (FX4_firstBare x0) := s_of pn_X4 (Nat.le_of_ble_eq_true rfl) fun n => FX4_firstBare_ok x0

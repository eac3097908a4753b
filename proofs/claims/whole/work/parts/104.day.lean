def FX0_isLaw (x0 : Int32) : qP Int32 :=
if x0 < 0 then (
qr (0 : Int32)) else (
if (4 : Int32) ≤ x0 then (
qr (0 : Int32)) else (
qr (1 : Int32)))
set_option maxRecDepth 100000 in
set_option maxHeartbeats 4000000 in
theorem FX0_isLaw_ok {l : Launch} {g : qG} {d n : Nat} (x0 : Int32) : qS l g mX0_isLaw d n 0 0 0 0 cvI 0 [(0, .int x0)] [] (FX0_isLaw x0) := by
  unfold FX0_isLaw
  refine s_iload_n dX0_isLaw_0 rfl ?_
  refine s_if_lt (tgt := 13) dX0_isLaw_1 (by decide) (fun c1 => ?_) (fun c1 => ?_)
  · refine s_iconst (v := 0) dX0_isLaw_13 (by decide) ?_
    exact s_ireturn dX0_isLaw_14 rfl (by decide)
  · refine s_iload_n dX0_isLaw_4 rfl ?_
    refine s_iconst (v := 4) dX0_isLaw_5 (by decide) ?_
    refine s_icmp_ge (tgt := 13) dX0_isLaw_6 (by decide) (fun c2 => ?_) (fun c2 => ?_)
    · refine s_iconst (v := 0) dX0_isLaw_13 (by decide) ?_
      exact s_ireturn dX0_isLaw_14 rfl (by decide)
    · refine s_iconst (v := 1) dX0_isLaw_9 (by decide) ?_
      refine s_goto (tgt := 14) dX0_isLaw_10 (by decide) ?_
      exact s_ireturn dX0_isLaw_14 rfl (by decide)
theorem CX0_isLaw {l : Launch} {g : qG} {d : Nat} (x0 : Int32) : qCt l g mX0_isLaw d 0 0 cvI [.int x0] (FX0_isLaw x0) := s_of pn_X0 (Nat.le_of_ble_eq_true rfl) fun n => FX0_isLaw_ok x0
def FX0_isLetter (x0 : Int32) : qP Int32 :=
if x0 < 0 then (
qr (0 : Int32)) else (
if (26 : Int32) ≤ x0 then (
qr (0 : Int32)) else (
qr (1 : Int32)))
set_option maxRecDepth 100000 in
set_option maxHeartbeats 4000000 in
theorem FX0_isLetter_ok {l : Launch} {g : qG} {d n : Nat} (x0 : Int32) : qS l g mX0_isLetter d n 0 0 0 0 cvI 0 [(0, .int x0)] [] (FX0_isLetter x0) := by
  unfold FX0_isLetter
  refine s_iload_n dX0_isLetter_0 rfl ?_
  refine s_if_lt (tgt := 14) dX0_isLetter_1 (by decide) (fun c1 => ?_) (fun c1 => ?_)
  · refine s_iconst (v := 0) dX0_isLetter_14 (by decide) ?_
    exact s_ireturn dX0_isLetter_15 rfl (by decide)
  · refine s_iload_n dX0_isLetter_4 rfl ?_
    refine s_bipush (v := 26) dX0_isLetter_5 (by decide) ?_
    refine s_icmp_ge (tgt := 14) dX0_isLetter_7 (by decide) (fun c2 => ?_) (fun c2 => ?_)
    · refine s_iconst (v := 0) dX0_isLetter_14 (by decide) ?_
      exact s_ireturn dX0_isLetter_15 rfl (by decide)
    · refine s_iconst (v := 1) dX0_isLetter_10 (by decide) ?_
      refine s_goto (tgt := 15) dX0_isLetter_11 (by decide) ?_
      exact s_ireturn dX0_isLetter_15 rfl (by decide)
theorem CX0_isLetter {l : Launch} {g : qG} {d : Nat} (x0 : Int32) : qCt l g mX0_isLetter d 0 0 cvI [.int x0] (FX0_isLetter x0) := s_of pn_X0 (Nat.le_of_ble_eq_true rfl) fun n => FX0_isLetter_ok x0
def FX0_empty (x0 : Nat) : qP Unit :=
qb (pV 0 x0 1 (.int (0 : Int32))) fun _ =>
qb (gR 0 x0 3) fun v1 =>
qb (FJ7_fill_53178 v1 (0 : Int32)) fun v2 =>
qr ()
set_option maxRecDepth 100000 in
set_option maxHeartbeats 4000000 in
theorem FX0_empty_ok {l : Launch} {g : qG} {d n : Nat} (x0 : Nat) : qS l g mX0_empty (d + 1) n 0 0 0 0 cvV 0 [(0, .ref x0)] [] (FX0_empty x0) := by
  unfold FX0_empty
  refine s_aload_n dX0_empty_0 rfl ?_
  refine s_iconst (v := 0) dX0_empty_1 (by decide) ?_
  refine s_put dX0_empty_2 fX0_15 rfl rfl ?_
  refine s_aload_n dX0_empty_5 rfl ?_
  refine s_gR dX0_empty_6 fX0_22 fun v1 => ?_
  refine s_iconst (v := 0) dX0_empty_9 (by decide) ?_
  refine s_staticV (as := [.ref v1, .int (0 : Int32)]) (rest := []) dX0_empty_10 sX0_31 (CJ7_fill_53178 _ _) (Nat.le_of_ble_eq_true rfl) ⟨Nat.le_refl _, Nat.le_refl _⟩ fun v2 => ?_
  exact s_return dX0_empty_13 rfl
theorem CX0_empty {l : Launch} {g : qG} {d : Nat} (x0 : Nat) : qCt l g mX0_empty (d + 1) 0 0 cvV [.ref x0] (FX0_empty x0) := s_of pn_X0 (Nat.le_of_ble_eq_true rfl) fun n => FX0_empty_ok x0
def FX0_become (x0 : Nat) (x1 : Nat) : qP Unit :=
qb (gR 0 x1 0) fun v1 =>
qb (gR 0 x0 0) fun v2 =>
qb (cp v1 (0 : Int32) v2 (0 : Int32) (60 : Int32)) fun _ =>
qb (gI 0 x1 1) fun v3 =>
qb (pV 0 x0 1 (.int v3)) fun _ =>
qb (gR 0 x1 2) fun v4 =>
qb (gR 0 x0 2) fun v5 =>
qb (cp v4 (0 : Int32) v5 (0 : Int32) (32 : Int32)) fun _ =>
qb (gR 0 x1 3) fun v6 =>
qb (gR 0 x0 3) fun v7 =>
qb (cp v6 (0 : Int32) v7 (0 : Int32) (4 : Int32)) fun _ =>
qr ()
set_option maxRecDepth 100000 in
set_option maxHeartbeats 4000000 in
theorem FX0_become_ok {l : Launch} {g : qG} {d n : Nat} (x0 : Nat) (x1 : Nat) : qS l g mX0_become (d + 1) n 0 0 0 0 cvV 0 [(0, .ref x0), (1, .ref x1)] [] (FX0_become x0 x1) := by
  unfold FX0_become
  refine s_aload_n dX0_become_0 rfl ?_
  refine s_gR dX0_become_1 fX0_11 fun v1 => ?_
  refine s_iconst (v := 0) dX0_become_4 (by decide) ?_
  refine s_aload_n dX0_become_5 rfl ?_
  refine s_gR dX0_become_6 fX0_11 fun v2 => ?_
  refine s_iconst (v := 0) dX0_become_9 (by decide) ?_
  refine s_bipush (v := 60) dX0_become_10 (by decide) ?_
  refine s_copy dX0_become_12 aX0_37 kw_an kw_as kw_ai (Nat.le_of_ble_eq_true rfl) ?_
  refine s_aload_n dX0_become_15 rfl ?_
  refine s_aload_n dX0_become_16 rfl ?_
  refine s_gI dX0_become_17 fX0_15 fun v3 => ?_
  refine s_put dX0_become_20 fX0_15 rfl rfl ?_
  refine s_aload_n dX0_become_23 rfl ?_
  refine s_gR dX0_become_24 fX0_19 fun v4 => ?_
  refine s_iconst (v := 0) dX0_become_27 (by decide) ?_
  refine s_aload_n dX0_become_28 rfl ?_
  refine s_gR dX0_become_29 fX0_19 fun v5 => ?_
  refine s_iconst (v := 0) dX0_become_32 (by decide) ?_
  refine s_bipush (v := 32) dX0_become_33 (by decide) ?_
  refine s_copy dX0_become_35 aX0_37 kw_an kw_as kw_ai (Nat.le_of_ble_eq_true rfl) ?_
  refine s_aload_n dX0_become_38 rfl ?_
  refine s_gR dX0_become_39 fX0_22 fun v6 => ?_
  refine s_iconst (v := 0) dX0_become_42 (by decide) ?_
  refine s_aload_n dX0_become_43 rfl ?_
  refine s_gR dX0_become_44 fX0_22 fun v7 => ?_
  refine s_iconst (v := 0) dX0_become_47 (by decide) ?_
  refine s_iconst (v := 4) dX0_become_48 (by decide) ?_
  refine s_copy dX0_become_49 aX0_37 kw_an kw_as kw_ai (Nat.le_of_ble_eq_true rfl) ?_
  exact s_return dX0_become_52 rfl
theorem CX0_become {l : Launch} {g : qG} {d : Nat} (x0 : Nat) (x1 : Nat) : qCt l g mX0_become (d + 1) 0 0 cvV [.ref x0, .ref x1] (FX0_become x0 x1) := s_of pn_X0 (Nat.le_of_ble_eq_true rfl) fun n => FX0_become_ok x0 x1
def FX0_addSign (x0 : Nat) (x1 : Int32) : qP Int32 :=
qb (FX0_isLetter x1) fun v1 =>
if v1 = 0 then (
qr (-2 : Int32)) else (
qb (gI 0 x0 1) fun v2 =>
if v2 < (60 : Int32) then (
qb (gR 0 x0 0) fun v3 =>
qb (gI 0 x0 1) fun v4 =>
qb (sI v3 v4 x1) fun _ =>
qb (gI 0 x0 1) fun v5 =>
qb (pV 0 x0 1 (.int (v5 + (1 : Int32)))) fun _ =>
qb (gI 0 x0 1) fun v6 =>
qr v6) else (
qr (-4 : Int32)))
set_option maxRecDepth 100000 in
set_option maxHeartbeats 4000000 in
theorem FX0_addSign_ok {l : Launch} {g : qG} {d n : Nat} (x0 : Nat) (x1 : Int32) : qS l g mX0_addSign (d + 1) n 0 0 0 0 cvI 0 [(0, .ref x0), (1, .int x1)] [] (FX0_addSign x0 x1) := by
  unfold FX0_addSign
  refine s_iload_n dX0_addSign_0 rfl ?_
  refine s_staticI (as := [.int x1]) (rest := []) dX0_addSign_1 sX0_43 (CX0_isLetter _) (Nat.le_of_ble_eq_true rfl) ⟨Nat.le_refl _, Nat.le_refl _⟩ fun v1 => ?_
  refine s_if_ne (tgt := 10) dX0_addSign_4 (by decide) (fun c1 => ?_) (fun c1 => ?_)
  · refine s_bipush (v := -2) dX0_addSign_7 (by decide) ?_
    exact s_ireturn dX0_addSign_9 rfl rfl
  · refine s_aload_n dX0_addSign_10 rfl ?_
    refine s_gI dX0_addSign_11 fX0_15 fun v2 => ?_
    refine s_bipush (v := 60) dX0_addSign_14 (by decide) ?_
    refine s_icmp_lt (tgt := 22) dX0_addSign_16 (by decide) (fun c2 => ?_) (fun c2 => ?_)
    · refine s_aload_n dX0_addSign_22 rfl ?_
      refine s_gR dX0_addSign_23 fX0_11 fun v3 => ?_
      refine s_aload_n dX0_addSign_26 rfl ?_
      refine s_gI dX0_addSign_27 fX0_15 fun v4 => ?_
      refine s_iload_n dX0_addSign_30 rfl ?_
      refine s_sI dX0_addSign_31 ?_
      refine s_aload_n dX0_addSign_32 rfl ?_
      refine s_dup dX0_addSign_33 rfl ?_
      refine s_gI dX0_addSign_34 fX0_15 fun v5 => ?_
      refine s_iconst (v := 1) dX0_addSign_37 (by decide) ?_
      refine s_iadd dX0_addSign_38 ?_
      refine s_put dX0_addSign_39 fX0_15 rfl rfl ?_
      refine s_aload_n dX0_addSign_42 rfl ?_
      refine s_gI dX0_addSign_43 fX0_15 fun v6 => ?_
      exact s_ireturn dX0_addSign_46 rfl rfl
    · refine s_bipush (v := -4) dX0_addSign_19 (by decide) ?_
      exact s_ireturn dX0_addSign_21 rfl rfl
theorem CX0_addSign {l : Launch} {g : qG} {d : Nat} (x0 : Nat) (x1 : Int32) : qCt l g mX0_addSign (d + 1) 0 0 cvI [.ref x0, .int x1] (FX0_addSign x0 x1) := s_of pn_X0 (Nat.le_of_ble_eq_true rfl) fun n => FX0_addSign_ok x0 x1
def FX0_forgetSigns (x0 : Nat) : qP Int32 :=
qb (gI 0 x0 1) fun v1 =>
qb (pV 0 x0 1 (.int (0 : Int32))) fun _ =>
qr v1
set_option maxRecDepth 100000 in
set_option maxHeartbeats 4000000 in
theorem FX0_forgetSigns_ok {l : Launch} {g : qG} {d n : Nat} (x0 : Nat) : qS l g mX0_forgetSigns d n 0 0 0 0 cvI 0 [(0, .ref x0)] [] (FX0_forgetSigns x0) := by
  unfold FX0_forgetSigns
  refine s_aload_n dX0_forgetSigns_0 rfl ?_
  refine s_gI dX0_forgetSigns_1 fX0_15 fun v1 => ?_
  refine s_istore_n (lv' := [(1, .int v1), (0, .ref x0)]) dX0_forgetSigns_4 (by decide) rfl ?_
  refine s_aload_n dX0_forgetSigns_5 rfl ?_
  refine s_iconst (v := 0) dX0_forgetSigns_6 (by decide) ?_
  refine s_put dX0_forgetSigns_7 fX0_15 rfl rfl ?_
  refine s_iload_n dX0_forgetSigns_10 rfl ?_
  exact s_ireturn dX0_forgetSigns_11 rfl rfl
theorem CX0_forgetSigns {l : Launch} {g : qG} {d : Nat} (x0 : Nat) : qCt l g mX0_forgetSigns d 0 0 cvI [.ref x0] (FX0_forgetSigns x0) := s_of pn_X0 (Nat.le_of_ble_eq_true rfl) fun n => FX0_forgetSigns_ok x0
def FX0_addLawSign (x0 : Nat) (x1 : Int32) (x2 : Int32) : qP Int32 :=
qb (FX0_isLaw x1) fun v1 =>
if v1 = 0 then (
qr (-2 : Int32)) else (
if x2 < 0 then (
qr (-2 : Int32)) else (
if x2 ≤ (27 : Int32) then (
qb (gR 0 x0 3) fun v2 =>
qb (aI v2 x1) fun v3 =>
if v3 < (8 : Int32) then (
qb (gR 0 x0 2) fun v4 =>
qb (gR 0 x0 3) fun v5 =>
qb (aI v5 x1) fun v6 =>
qb (sI v4 ((x1 * (8 : Int32)) + v6) x2) fun _ =>
qb (gR 0 x0 3) fun v7 =>
qb (aI v7 x1) fun v8 =>
qb (sI v7 x1 (v8 + (1 : Int32))) fun _ =>
qb (gR 0 x0 3) fun v9 =>
qb (aI v9 x1) fun v10 =>
qr v10) else (
qr (-4 : Int32))) else (
qr (-2 : Int32))))
set_option maxRecDepth 100000 in
set_option maxHeartbeats 4000000 in
theorem FX0_addLawSign_ok {l : Launch} {g : qG} {d n : Nat} (x0 : Nat) (x1 : Int32) (x2 : Int32) : qS l g mX0_addLawSign (d + 1) n 0 0 0 0 cvI 0 [(0, .ref x0), (1, .int x1), (2, .int x2)] [] (FX0_addLawSign x0 x1 x2) := by
  unfold FX0_addLawSign
  refine s_iload_n dX0_addLawSign_0 rfl ?_
  refine s_staticI (as := [.int x1]) (rest := []) dX0_addLawSign_1 sX0_47 (CX0_isLaw _) (Nat.le_of_ble_eq_true rfl) ⟨Nat.le_refl _, Nat.le_refl _⟩ fun v1 => ?_
  refine s_if_eq (tgt := 17) dX0_addLawSign_4 (by decide) (fun c1 => ?_) (fun c1 => ?_)
  · refine s_bipush (v := -2) dX0_addLawSign_17 (by decide) ?_
    exact s_ireturn dX0_addLawSign_19 rfl rfl
  · refine s_iload_n dX0_addLawSign_7 rfl ?_
    refine s_if_lt (tgt := 17) dX0_addLawSign_8 (by decide) (fun c2 => ?_) (fun c2 => ?_)
    · refine s_bipush (v := -2) dX0_addLawSign_17 (by decide) ?_
      exact s_ireturn dX0_addLawSign_19 rfl rfl
    · refine s_iload_n dX0_addLawSign_11 rfl ?_
      refine s_bipush (v := 27) dX0_addLawSign_12 (by decide) ?_
      refine s_icmp_le (tgt := 20) dX0_addLawSign_14 (by decide) (fun c3 => ?_) (fun c3 => ?_)
      · refine s_aload_n dX0_addLawSign_20 rfl ?_
        refine s_gR dX0_addLawSign_21 fX0_22 fun v2 => ?_
        refine s_iload_n dX0_addLawSign_24 rfl ?_
        refine s_aI dX0_addLawSign_25 fun v3 => ?_
        refine s_bipush (v := 8) dX0_addLawSign_26 (by decide) ?_
        refine s_icmp_lt (tgt := 34) dX0_addLawSign_28 (by decide) (fun c4 => ?_) (fun c4 => ?_)
        · refine s_aload_n dX0_addLawSign_34 rfl ?_
          refine s_gR dX0_addLawSign_35 fX0_19 fun v4 => ?_
          refine s_iload_n dX0_addLawSign_38 rfl ?_
          refine s_bipush (v := 8) dX0_addLawSign_39 (by decide) ?_
          refine s_imul dX0_addLawSign_41 ?_
          refine s_aload_n dX0_addLawSign_42 rfl ?_
          refine s_gR dX0_addLawSign_43 fX0_22 fun v5 => ?_
          refine s_iload_n dX0_addLawSign_46 rfl ?_
          refine s_aI dX0_addLawSign_47 fun v6 => ?_
          refine s_iadd dX0_addLawSign_48 ?_
          refine s_iload_n dX0_addLawSign_49 rfl ?_
          refine s_sI dX0_addLawSign_50 ?_
          refine s_aload_n dX0_addLawSign_51 rfl ?_
          refine s_gR dX0_addLawSign_52 fX0_22 fun v7 => ?_
          refine s_iload_n dX0_addLawSign_55 rfl ?_
          refine s_dup2 dX0_addLawSign_56 rfl rfl ?_
          refine s_aI dX0_addLawSign_57 fun v8 => ?_
          refine s_iconst (v := 1) dX0_addLawSign_58 (by decide) ?_
          refine s_iadd dX0_addLawSign_59 ?_
          refine s_sI dX0_addLawSign_60 ?_
          refine s_aload_n dX0_addLawSign_61 rfl ?_
          refine s_gR dX0_addLawSign_62 fX0_22 fun v9 => ?_
          refine s_iload_n dX0_addLawSign_65 rfl ?_
          refine s_aI dX0_addLawSign_66 fun v10 => ?_
          exact s_ireturn dX0_addLawSign_67 rfl rfl
        · refine s_bipush (v := -4) dX0_addLawSign_31 (by decide) ?_
          exact s_ireturn dX0_addLawSign_33 rfl rfl
      · refine s_bipush (v := -2) dX0_addLawSign_17 (by decide) ?_
        exact s_ireturn dX0_addLawSign_19 rfl rfl
theorem CX0_addLawSign {l : Launch} {g : qG} {d : Nat} (x0 : Nat) (x1 : Int32) (x2 : Int32) : qCt l g mX0_addLawSign (d + 1) 0 0 cvI [.ref x0, .int x1, .int x2] (FX0_addLawSign x0 x1 x2) := s_of pn_X0 (Nat.le_of_ble_eq_true rfl) fun n => FX0_addLawSign_ok x0 x1 x2
def FX0_forgetLaw (x0 : Nat) (x1 : Int32) : qP Int32 :=
qb (FX0_isLaw x1) fun v1 =>
if v1 = 0 then (
qr (-2 : Int32)) else (
qb (gR 0 x0 3) fun v2 =>
qb (aI v2 x1) fun v3 =>
qb (gR 0 x0 3) fun v4 =>
qb (sI v4 x1 (0 : Int32)) fun _ =>
qr v3)
set_option maxRecDepth 100000 in
set_option maxHeartbeats 4000000 in
theorem FX0_forgetLaw_ok {l : Launch} {g : qG} {d n : Nat} (x0 : Nat) (x1 : Int32) : qS l g mX0_forgetLaw (d + 1) n 0 0 0 0 cvI 0 [(0, .ref x0), (1, .int x1)] [] (FX0_forgetLaw x0 x1) := by
  unfold FX0_forgetLaw
  refine s_iload_n dX0_forgetLaw_0 rfl ?_
  refine s_staticI (as := [.int x1]) (rest := []) dX0_forgetLaw_1 sX0_47 (CX0_isLaw _) (Nat.le_of_ble_eq_true rfl) ⟨Nat.le_refl _, Nat.le_refl _⟩ fun v1 => ?_
  refine s_if_ne (tgt := 10) dX0_forgetLaw_4 (by decide) (fun c1 => ?_) (fun c1 => ?_)
  · refine s_bipush (v := -2) dX0_forgetLaw_7 (by decide) ?_
    exact s_ireturn dX0_forgetLaw_9 rfl rfl
  · refine s_aload_n dX0_forgetLaw_10 rfl ?_
    refine s_gR dX0_forgetLaw_11 fX0_22 fun v2 => ?_
    refine s_iload_n dX0_forgetLaw_14 rfl ?_
    refine s_aI dX0_forgetLaw_15 fun v3 => ?_
    refine s_istore_n (lv' := [(2, .int v3), (0, .ref x0), (1, .int x1)]) dX0_forgetLaw_16 (by decide) rfl ?_
    refine s_aload_n dX0_forgetLaw_17 rfl ?_
    refine s_gR dX0_forgetLaw_18 fX0_22 fun v4 => ?_
    refine s_iload_n dX0_forgetLaw_21 rfl ?_
    refine s_iconst (v := 0) dX0_forgetLaw_22 (by decide) ?_
    refine s_sI dX0_forgetLaw_23 ?_
    refine s_iload_n dX0_forgetLaw_24 rfl ?_
    exact s_ireturn dX0_forgetLaw_25 rfl rfl
theorem CX0_forgetLaw {l : Launch} {g : qG} {d : Nat} (x0 : Nat) (x1 : Int32) : qCt l g mX0_forgetLaw (d + 1) 0 0 cvI [.ref x0, .int x1] (FX0_forgetLaw x0 x1) := s_of pn_X0 (Nat.le_of_ble_eq_true rfl) fun n => FX0_forgetLaw_ok x0 x1
def UX0_step_108 (R : Nat → Int32 → Int32 → Int32 → Int32 → Int32 → qP Int32) (x0 : Nat) (x1 : Int32) (x2 : Int32) (x3 : Int32) (x4 : Int32) (x5 : Int32) : qP Int32 :=
R x0 x1 x2 x3 (x4 ||| ((1 : Int32) <<< ((x5 + (1 : Int32)) &&& 31))) (x5 + 1)
set_option maxRecDepth 100000 in
set_option maxHeartbeats 4000000 in
theorem UX0_step_108_ok {l : Launch} {g : qG} {d n : Nat} {R : Nat → Int32 → Int32 → Int32 → Int32 → Int32 → qP Int32} (hR : ∀ (x0 : Nat) (x1 : Int32) (x2 : Int32) (x3 : Int32) (x4 : Int32) (x5 : Int32), qS l g mX0_step (d + 1) n 0 0 0 0 cvI 6 [(0, .ref x0), (1, .int x1), (2, .int x2), (3, .int x3), (4, .int x4), (5, .int x5)] [] (R x0 x1 x2 x3 x4 x5)) (x0 : Nat) (x1 : Int32) (x2 : Int32) (x3 : Int32) (x4 : Int32) (x5 : Int32) : qS l g mX0_step (d + 1) n 0 0 0 0 cvI 108 [(0, .ref x0), (1, .int x1), (2, .int x2), (3, .int x3), (4, .int x4), (5, .int x5)] [] (UX0_step_108 R x0 x1 x2 x3 x4 x5) := by
  unfold UX0_step_108
  refine s_iload dX0_step_108 rfl ?_
  refine s_iconst (v := 1) dX0_step_110 (by decide) ?_
  refine s_iload dX0_step_111 rfl ?_
  refine s_iconst (v := 1) dX0_step_113 (by decide) ?_
  refine s_iadd dX0_step_114 ?_
  refine s_ishl dX0_step_115 ?_
  refine s_ior dX0_step_116 ?_
  refine s_istore (lv' := [(4, .int (x4 ||| ((1 : Int32) <<< ((x5 + (1 : Int32)) &&& 31)))), (0, .ref x0), (1, .int x1), (2, .int x2), (3, .int x3), (5, .int x5)]) dX0_step_117 (by decide) rfl ?_
  refine s_iinc (lv' := [(5, .int (x5 + 1)), (4, .int (x4 ||| ((1 : Int32) <<< ((x5 + (1 : Int32)) &&& 31)))), (0, .ref x0), (1, .int x1), (2, .int x2), (3, .int x3)]) dX0_step_119 rfl (by decide) rfl ?_
  refine s_goto (tgt := 6) dX0_step_122 (by decide) ?_
  refine s_locals [2, 3, 4, 5, 1, 0] rfl ?_
  exact hR x0 x1 x2 x3 (x4 ||| ((1 : Int32) <<< ((x5 + (1 : Int32)) &&& 31))) (x5 + 1)
def UX0_step_91 (R : Nat → Int32 → Int32 → Int32 → Int32 → Int32 → qP Int32) (x0 : Nat) (x1 : Int32) (x2 : Int32) (x3 : Int32) (x4 : Int32) (x5 : Int32) (x7 : Int32) (x8 : Int32) (s0 : Int32) : qP Int32 :=
if x7 = 0 then (
R x0 x1 x2 x3 x4 (x5 + 1)) else (
if x8 = 0 then (
if s0 = 0 then (
R x0 x1 x2 x3 x4 (x5 + 1)) else (
UX0_step_108 R x0 x1 x2 x3 x4 x5)) else (
UX0_step_108 R x0 x1 x2 x3 x4 x5))
set_option maxRecDepth 100000 in
set_option maxHeartbeats 4000000 in
theorem UX0_step_91_ok {l : Launch} {g : qG} {d n : Nat} {R : Nat → Int32 → Int32 → Int32 → Int32 → Int32 → qP Int32} (hR : ∀ (x0 : Nat) (x1 : Int32) (x2 : Int32) (x3 : Int32) (x4 : Int32) (x5 : Int32), qS l g mX0_step (d + 1) n 0 0 0 0 cvI 6 [(0, .ref x0), (1, .int x1), (2, .int x2), (3, .int x3), (4, .int x4), (5, .int x5)] [] (R x0 x1 x2 x3 x4 x5)) (x0 : Nat) (x1 : Int32) (x2 : Int32) (x3 : Int32) (x4 : Int32) (x5 : Int32) (x7 : Int32) (x8 : Int32) (s0 : Int32) : qS l g mX0_step (d + 1) n 0 0 0 0 cvI 91 [(0, .ref x0), (1, .int x1), (2, .int x2), (3, .int x3), (4, .int x4), (5, .int x5), (7, .int x7), (8, .int x8)] [.int s0] (UX0_step_91 R x0 x1 x2 x3 x4 x5 x7 x8 s0) := by
  unfold UX0_step_91
  refine s_istore (lv' := [(9, .int s0), (0, .ref x0), (1, .int x1), (2, .int x2), (3, .int x3), (4, .int x4), (5, .int x5), (7, .int x7), (8, .int x8)]) dX0_step_91 (by decide) rfl ?_
  refine s_iload dX0_step_93 rfl ?_
  refine s_if_eq (tgt := 119) dX0_step_95 (by decide) (fun c1 => ?_) (fun c1 => ?_)
  · refine s_iinc (lv' := [(5, .int (x5 + 1)), (9, .int s0), (0, .ref x0), (1, .int x1), (2, .int x2), (3, .int x3), (4, .int x4), (7, .int x7), (8, .int x8)]) dX0_step_119 rfl (by decide) rfl ?_
    refine s_goto (tgt := 6) dX0_step_122 (by decide) ?_
    refine s_locals [2, 3, 4, 5, 6, 0] rfl ?_
    exact hR x0 x1 x2 x3 x4 (x5 + 1)
  · refine s_iload dX0_step_98 rfl ?_
    refine s_if_ne (tgt := 108) dX0_step_100 (by decide) (fun c2 => ?_) (fun c2 => ?_)
    · refine s_iload dX0_step_103 rfl ?_
      refine s_if_eq (tgt := 119) dX0_step_105 (by decide) (fun c3 => ?_) (fun c3 => ?_)
      · refine s_iinc (lv' := [(5, .int (x5 + 1)), (9, .int s0), (0, .ref x0), (1, .int x1), (2, .int x2), (3, .int x3), (4, .int x4), (7, .int x7), (8, .int x8)]) dX0_step_119 rfl (by decide) rfl ?_
        refine s_goto (tgt := 6) dX0_step_122 (by decide) ?_
        refine s_locals [2, 3, 4, 5, 6, 0] rfl ?_
        exact hR x0 x1 x2 x3 x4 (x5 + 1)
      · refine s_locals [1, 2, 3, 4, 5, 6] rfl ?_
        exact UX0_step_108_ok hR x0 x1 x2 x3 x4 x5
    · refine s_locals [1, 2, 3, 4, 5, 6] rfl ?_
      exact UX0_step_108_ok hR x0 x1 x2 x3 x4 x5
def UX0_step_56 (R : Nat → Int32 → Int32 → Int32 → Int32 → Int32 → qP Int32) (x0 : Nat) (x1 : Int32) (x2 : Int32) (x3 : Int32) (x4 : Int32) (x5 : Int32) (x6 : Int32) (s0 : Int32) : qP Int32 :=
qb (FX11_isSet (x2 ||| (1 : Int32)) x5) fun v1 =>
if x6 = (27 : Int32) then (
qb (FX11_isSet x2 (x5 + (1 : Int32))) fun v2 =>
if v2 = 0 then (
UX0_step_91 R x0 x1 x2 x3 x4 x5 s0 v1 (0 : Int32)) else (
UX0_step_91 R x0 x1 x2 x3 x4 x5 s0 v1 (1 : Int32))) else (
UX0_step_91 R x0 x1 x2 x3 x4 x5 s0 v1 (0 : Int32))
set_option maxRecDepth 100000 in
set_option maxHeartbeats 4000000 in
theorem UX0_step_56_ok {l : Launch} {g : qG} {d n : Nat} {R : Nat → Int32 → Int32 → Int32 → Int32 → Int32 → qP Int32} (hR : ∀ (x0 : Nat) (x1 : Int32) (x2 : Int32) (x3 : Int32) (x4 : Int32) (x5 : Int32), qS l g mX0_step (d + 1) n 0 0 0 0 cvI 6 [(0, .ref x0), (1, .int x1), (2, .int x2), (3, .int x3), (4, .int x4), (5, .int x5)] [] (R x0 x1 x2 x3 x4 x5)) (x0 : Nat) (x1 : Int32) (x2 : Int32) (x3 : Int32) (x4 : Int32) (x5 : Int32) (x6 : Int32) (s0 : Int32) : qS l g mX0_step (d + 1) n 0 0 0 0 cvI 56 [(0, .ref x0), (1, .int x1), (2, .int x2), (3, .int x3), (4, .int x4), (5, .int x5), (6, .int x6)] [.int s0] (UX0_step_56 R x0 x1 x2 x3 x4 x5 x6 s0) := by
  unfold UX0_step_56
  refine s_istore (lv' := [(7, .int s0), (0, .ref x0), (1, .int x1), (2, .int x2), (3, .int x3), (4, .int x4), (5, .int x5), (6, .int x6)]) dX0_step_56 (by decide) rfl ?_
  refine s_iload_n dX0_step_58 rfl ?_
  refine s_iconst (v := 1) dX0_step_59 (by decide) ?_
  refine s_ior dX0_step_60 ?_
  refine s_iload dX0_step_61 rfl ?_
  refine s_staticNI (as := [.int (x2 ||| (1 : Int32)), .int x5]) (rest := []) dX0_step_63 sX0_62 (CX11_isSet _ _) (Nat.le_of_ble_eq_true rfl) ⟨Nat.le_refl _, Nat.le_refl _⟩ fun v1 => ?_
  refine s_istore (lv' := [(8, .int v1), (7, .int s0), (0, .ref x0), (1, .int x1), (2, .int x2), (3, .int x3), (4, .int x4), (5, .int x5), (6, .int x6)]) dX0_step_66 (by decide) rfl ?_
  refine s_iload dX0_step_68 rfl ?_
  refine s_bipush (v := 27) dX0_step_70 (by decide) ?_
  refine s_icmp_ne (tgt := 90) dX0_step_72 (by decide) (fun c1 => ?_) (fun c1 => ?_)
  · refine s_iload_n dX0_step_75 rfl ?_
    refine s_iload dX0_step_76 rfl ?_
    refine s_iconst (v := 1) dX0_step_78 (by decide) ?_
    refine s_iadd dX0_step_79 ?_
    refine s_staticNI (as := [.int x2, .int (x5 + (1 : Int32))]) (rest := []) dX0_step_80 sX0_62 (CX11_isSet _ _) (Nat.le_of_ble_eq_true rfl) ⟨Nat.le_refl _, Nat.le_refl _⟩ fun v2 => ?_
    refine s_if_eq (tgt := 90) dX0_step_83 (by decide) (fun c2 => ?_) (fun c2 => ?_)
    · refine s_iconst (v := 0) dX0_step_90 (by decide) ?_
      refine s_locals [2, 3, 4, 5, 6, 7, 1, 0] rfl ?_
      exact UX0_step_91_ok hR x0 x1 x2 x3 x4 x5 s0 v1 (0 : Int32)
    · refine s_iconst (v := 1) dX0_step_86 (by decide) ?_
      refine s_goto (tgt := 91) dX0_step_87 (by decide) ?_
      refine s_locals [2, 3, 4, 5, 6, 7, 1, 0] rfl ?_
      exact UX0_step_91_ok hR x0 x1 x2 x3 x4 x5 s0 v1 (1 : Int32)
  · refine s_iconst (v := 0) dX0_step_90 (by decide) ?_
    refine s_locals [2, 3, 4, 5, 6, 7, 1, 0] rfl ?_
    exact UX0_step_91_ok hR x0 x1 x2 x3 x4 x5 s0 v1 (0 : Int32)
def UX0_step_6 (R : Nat → Int32 → Int32 → Int32 → Int32 → Int32 → qP Int32) (x0 : Nat) (x1 : Int32) (x2 : Int32) (x3 : Int32) (x4 : Int32) (x5 : Int32) : qP Int32 :=
qb (gR 0 x0 3) fun v1 =>
qb (aI v1 x1) fun v2 =>
if v2 ≤ x5 then (
qr x4) else (
qb (gR 0 x0 2) fun v3 =>
qb (aI v3 ((x1 * (8 : Int32)) + x5)) fun v4 =>
if v4 = x3 then (
UX0_step_56 R x0 x1 x2 x3 x4 x5 v4 (1 : Int32)) else (
if v4 = (26 : Int32) then (
UX0_step_56 R x0 x1 x2 x3 x4 x5 v4 (1 : Int32)) else (
if v4 = (27 : Int32) then (
UX0_step_56 R x0 x1 x2 x3 x4 x5 v4 (1 : Int32)) else (
UX0_step_56 R x0 x1 x2 x3 x4 x5 v4 (0 : Int32)))))
set_option maxRecDepth 100000 in
set_option maxHeartbeats 4000000 in
theorem UX0_step_6_ok {l : Launch} {g : qG} {d n : Nat} {R : Nat → Int32 → Int32 → Int32 → Int32 → Int32 → qP Int32} (hR : ∀ (x0 : Nat) (x1 : Int32) (x2 : Int32) (x3 : Int32) (x4 : Int32) (x5 : Int32), qS l g mX0_step (d + 1) n 0 0 0 0 cvI 6 [(0, .ref x0), (1, .int x1), (2, .int x2), (3, .int x3), (4, .int x4), (5, .int x5)] [] (R x0 x1 x2 x3 x4 x5)) (x0 : Nat) (x1 : Int32) (x2 : Int32) (x3 : Int32) (x4 : Int32) (x5 : Int32) : qS l g mX0_step (d + 1) n 0 0 0 0 cvI 6 [(0, .ref x0), (1, .int x1), (2, .int x2), (3, .int x3), (4, .int x4), (5, .int x5)] [] (UX0_step_6 R x0 x1 x2 x3 x4 x5) := by
  unfold UX0_step_6
  refine s_iload dX0_step_6 rfl ?_
  refine s_aload_n dX0_step_8 rfl ?_
  refine s_gR dX0_step_9 fX0_22 fun v1 => ?_
  refine s_iload_n dX0_step_12 rfl ?_
  refine s_aI dX0_step_13 fun v2 => ?_
  refine s_icmp_ge (tgt := 125) dX0_step_14 (by decide) (fun c1 => ?_) (fun c1 => ?_)
  · refine s_iload dX0_step_125 rfl ?_
    exact s_ireturn dX0_step_127 rfl rfl
  · refine s_aload_n dX0_step_17 rfl ?_
    refine s_gR dX0_step_18 fX0_19 fun v3 => ?_
    refine s_iload_n dX0_step_21 rfl ?_
    refine s_bipush (v := 8) dX0_step_22 (by decide) ?_
    refine s_imul dX0_step_24 ?_
    refine s_iload dX0_step_25 rfl ?_
    refine s_iadd dX0_step_27 ?_
    refine s_aI dX0_step_28 fun v4 => ?_
    refine s_istore (lv' := [(6, .int v4), (0, .ref x0), (1, .int x1), (2, .int x2), (3, .int x3), (4, .int x4), (5, .int x5)]) dX0_step_29 (by decide) rfl ?_
    refine s_iload dX0_step_31 rfl ?_
    refine s_iload_n dX0_step_33 rfl ?_
    refine s_icmp_eq (tgt := 51) dX0_step_34 (by decide) (fun c2 => ?_) (fun c2 => ?_)
    · refine s_iconst (v := 1) dX0_step_51 (by decide) ?_
      refine s_goto (tgt := 56) dX0_step_52 (by decide) ?_
      refine s_locals [1, 2, 3, 4, 5, 6, 0] rfl ?_
      exact UX0_step_56_ok hR x0 x1 x2 x3 x4 x5 v4 (1 : Int32)
    · refine s_iload dX0_step_37 rfl ?_
      refine s_bipush (v := 26) dX0_step_39 (by decide) ?_
      refine s_icmp_eq (tgt := 51) dX0_step_41 (by decide) (fun c3 => ?_) (fun c3 => ?_)
      · refine s_iconst (v := 1) dX0_step_51 (by decide) ?_
        refine s_goto (tgt := 56) dX0_step_52 (by decide) ?_
        refine s_locals [1, 2, 3, 4, 5, 6, 0] rfl ?_
        exact UX0_step_56_ok hR x0 x1 x2 x3 x4 x5 v4 (1 : Int32)
      · refine s_iload dX0_step_44 rfl ?_
        refine s_bipush (v := 27) dX0_step_46 (by decide) ?_
        refine s_icmp_ne (tgt := 55) dX0_step_48 (by decide) (fun c4 => ?_) (fun c4 => ?_)
        · refine s_iconst (v := 1) dX0_step_51 (by decide) ?_
          refine s_goto (tgt := 56) dX0_step_52 (by decide) ?_
          refine s_locals [1, 2, 3, 4, 5, 6, 0] rfl ?_
          exact UX0_step_56_ok hR x0 x1 x2 x3 x4 x5 v4 (1 : Int32)
        · refine s_iconst (v := 0) dX0_step_55 (by decide) ?_
          refine s_locals [1, 2, 3, 4, 5, 6, 0] rfl ?_
          exact UX0_step_56_ok hR x0 x1 x2 x3 x4 x5 v4 (0 : Int32)
def WX0_step_6 : Nat → Nat → Int32 → Int32 → Int32 → Int32 → Int32 → qP Int32
  | 0 => fun _ _ _ _ _ _ => qfail
  | N + 1 => fun x0 x1 x2 x3 x4 x5 => UX0_step_6 (WX0_step_6  N)  x0 x1 x2 x3 x4 x5
theorem WX0_step_6_ok {l : Launch} {g : qG} {d n : Nat} : ∀ (N : Nat) (x0 : Nat) (x1 : Int32) (x2 : Int32) (x3 : Int32) (x4 : Int32) (x5 : Int32), qS l g mX0_step (d + 1) n 0 0 0 0 cvI 6 [(0, .ref x0), (1, .int x1), (2, .int x2), (3, .int x3), (4, .int x4), (5, .int x5)] [] (WX0_step_6  N x0 x1 x2 x3 x4 x5) := by
  intro N
  induction N with
  | zero => intro x0 x1 x2 x3 x4 x5; exact s_fail
  | succ N ih => intro x0 x1 x2 x3 x4 x5; exact UX0_step_6_ok ih  x0 x1 x2 x3 x4 x5
def FX0_step (x0 : Nat) (x1 : Int32) (x2 : Int32) (x3 : Int32) : qP Int32 :=
WX0_step_6 1000000 x0 x1 x2 x3 (0 : Int32) (0 : Int32)
set_option maxRecDepth 100000 in
set_option maxHeartbeats 4000000 in
theorem FX0_step_ok {l : Launch} {g : qG} {d n : Nat} (x0 : Nat) (x1 : Int32) (x2 : Int32) (x3 : Int32) : qS l g mX0_step (d + 1) n 0 0 0 0 cvI 0 [(0, .ref x0), (1, .int x1), (2, .int x2), (3, .int x3)] [] (FX0_step x0 x1 x2 x3) := by
  unfold FX0_step
  refine s_iconst (v := 0) dX0_step_0 (by decide) ?_
  refine s_istore (lv' := [(4, .int (0 : Int32)), (0, .ref x0), (1, .int x1), (2, .int x2), (3, .int x3)]) dX0_step_1 (by decide) rfl ?_
  refine s_iconst (v := 0) dX0_step_3 (by decide) ?_
  refine s_istore (lv' := [(5, .int (0 : Int32)), (4, .int (0 : Int32)), (0, .ref x0), (1, .int x1), (2, .int x2), (3, .int x3)]) dX0_step_4 (by decide) rfl ?_
  refine s_locals [2, 3, 4, 5, 1, 0] rfl ?_
  exact WX0_step_6_ok  1000000 x0 x1 x2 x3 (0 : Int32) (0 : Int32)
theorem CX0_step {l : Launch} {g : qG} {d : Nat} (x0 : Nat) (x1 : Int32) (x2 : Int32) (x3 : Int32) : qCt l g mX0_step (d + 1) 0 0 cvI [.ref x0, .int x1, .int x2, .int x3] (FX0_step x0 x1 x2 x3) := s_of pn_X0 (Nat.le_of_ble_eq_true rfl) fun n => FX0_step_ok x0 x1 x2 x3
def FX0_isBroken (x0 : Nat) (x1 : Int32) (x2 : Int32) : qP Int32 :=
qb (gR 0 x0 3) fun v1 =>
qb (aI v1 x1) fun v2 =>
if v2 ≤ 0 then (
qr (0 : Int32)) else (
qb (gR 0 x0 3) fun v3 =>
qb (aI v3 x1) fun v4 =>
qb (FX11_isSet x2 v4) fun v5 =>
if v5 = 0 then (
qr (0 : Int32)) else (
qr (1 : Int32)))
set_option maxRecDepth 100000 in
set_option maxHeartbeats 4000000 in
theorem FX0_isBroken_ok {l : Launch} {g : qG} {d n : Nat} (x0 : Nat) (x1 : Int32) (x2 : Int32) : qS l g mX0_isBroken (d + 1) n 0 0 0 0 cvI 0 [(0, .ref x0), (1, .int x1), (2, .int x2)] [] (FX0_isBroken x0 x1 x2) := by
  unfold FX0_isBroken
  refine s_aload_n dX0_isBroken_0 rfl ?_
  refine s_gR dX0_isBroken_1 fX0_22 fun v1 => ?_
  refine s_iload_n dX0_isBroken_4 rfl ?_
  refine s_aI dX0_isBroken_5 fun v2 => ?_
  refine s_if_le (tgt := 26) dX0_isBroken_6 (by decide) (fun c1 => ?_) (fun c1 => ?_)
  · refine s_iconst (v := 0) dX0_isBroken_26 (by decide) ?_
    exact s_ireturn dX0_isBroken_27 rfl (by decide)
  · refine s_iload_n dX0_isBroken_9 rfl ?_
    refine s_aload_n dX0_isBroken_10 rfl ?_
    refine s_gR dX0_isBroken_11 fX0_22 fun v3 => ?_
    refine s_iload_n dX0_isBroken_14 rfl ?_
    refine s_aI dX0_isBroken_15 fun v4 => ?_
    refine s_staticNI (as := [.int x2, .int v4]) (rest := []) dX0_isBroken_16 sX0_62 (CX11_isSet _ _) (Nat.le_of_ble_eq_true rfl) ⟨Nat.le_refl _, Nat.le_refl _⟩ fun v5 => ?_
    refine s_if_eq (tgt := 26) dX0_isBroken_19 (by decide) (fun c2 => ?_) (fun c2 => ?_)
    · refine s_iconst (v := 0) dX0_isBroken_26 (by decide) ?_
      exact s_ireturn dX0_isBroken_27 rfl (by decide)
    · refine s_iconst (v := 1) dX0_isBroken_22 (by decide) ?_
      refine s_goto (tgt := 27) dX0_isBroken_23 (by decide) ?_
      exact s_ireturn dX0_isBroken_27 rfl (by decide)
theorem CX0_isBroken {l : Launch} {g : qG} {d : Nat} (x0 : Nat) (x1 : Int32) (x2 : Int32) : qCt l g mX0_isBroken (d + 1) 0 0 cvI [.ref x0, .int x1, .int x2] (FX0_isBroken x0 x1 x2) := s_of pn_X0 (Nat.le_of_ble_eq_true rfl) fun n => FX0_isBroken_ok x0 x1 x2
def UX0_firstWord_4 (R : Nat → Int32 → Int32 → Int32 → qP Int32) (x0 : Nat) (x1 : Int32) (x2 : Int32) (x3 : Int32) : qP Int32 :=
qb (gI 0 x0 1) fun v1 =>
if v1 ≤ x3 then (
qr (-1 : Int32)) else (
qb (gR 0 x0 0) fun v2 =>
qb (aI v2 x3) fun v3 =>
qb (qcl 0 x0) fun _ => qb (FX0_step x0 x1 x2 v3) fun v4 =>
qb (qcl 0 x0) fun _ => qb (FX0_isBroken x0 x1 v4) fun v5 =>
if v5 = 0 then (
R x0 x1 v4 (x3 + 1)) else (
qr x3))
set_option maxRecDepth 100000 in
set_option maxHeartbeats 4000000 in
theorem UX0_firstWord_4_ok {l : Launch} {g : qG} {d n : Nat} {R : Nat → Int32 → Int32 → Int32 → qP Int32} (hR : ∀ (x0 : Nat) (x1 : Int32) (x2 : Int32) (x3 : Int32), qS l g mX0_firstWord (d + 2) n 0 0 0 0 cvI 4 [(0, .ref x0), (1, .int x1), (2, .int x2), (3, .int x3)] [] (R x0 x1 x2 x3)) (x0 : Nat) (x1 : Int32) (x2 : Int32) (x3 : Int32) : qS l g mX0_firstWord (d + 2) n 0 0 0 0 cvI 4 [(0, .ref x0), (1, .int x1), (2, .int x2), (3, .int x3)] [] (UX0_firstWord_4 R x0 x1 x2 x3) := by
  unfold UX0_firstWord_4
  refine s_iload_n dX0_firstWord_4 rfl ?_
  refine s_aload_n dX0_firstWord_5 rfl ?_
  refine s_gI dX0_firstWord_6 fX0_15 fun v1 => ?_
  refine s_icmp_ge (tgt := 42) dX0_firstWord_9 (by decide) (fun c1 => ?_) (fun c1 => ?_)
  · refine s_iconst (v := -1) dX0_firstWord_42 (by decide) ?_
    exact s_ireturn dX0_firstWord_43 rfl rfl
  · refine s_aload_n dX0_firstWord_12 rfl ?_
    refine s_iload_n dX0_firstWord_13 rfl ?_
    refine s_iload_n dX0_firstWord_14 rfl ?_
    refine s_aload_n dX0_firstWord_15 rfl ?_
    refine s_gR dX0_firstWord_16 fX0_11 fun v2 => ?_
    refine s_iload_n dX0_firstWord_19 rfl ?_
    refine s_aI dX0_firstWord_20 fun v3 => ?_
    refine s_virtI (as := [.int x1, .int x2, .int v3]) (rest := []) dX0_firstWord_21 vX0_50 (CX0_step _ _ _ _) (Nat.le_of_ble_eq_true rfl) ⟨Nat.le_refl _, Nat.le_refl _⟩ fun v4 => ?_
    refine s_istore_n (lv' := [(2, .int v4), (0, .ref x0), (1, .int x1), (3, .int x3)]) dX0_firstWord_24 (by decide) rfl ?_
    refine s_aload_n dX0_firstWord_25 rfl ?_
    refine s_iload_n dX0_firstWord_26 rfl ?_
    refine s_iload_n dX0_firstWord_27 rfl ?_
    refine s_virtI (as := [.int x1, .int v4]) (rest := []) dX0_firstWord_28 vX0_54 (CX0_isBroken _ _ _) (Nat.le_of_ble_eq_true rfl) ⟨Nat.le_refl _, Nat.le_refl _⟩ fun v5 => ?_
    refine s_if_eq (tgt := 36) dX0_firstWord_31 (by decide) (fun c2 => ?_) (fun c2 => ?_)
    · refine s_iinc (lv' := [(3, .int (x3 + 1)), (2, .int v4), (0, .ref x0), (1, .int x1)]) dX0_firstWord_36 rfl (by decide) rfl ?_
      refine s_goto (tgt := 4) dX0_firstWord_39 (by decide) ?_
      refine s_locals [2, 3, 1, 0] rfl ?_
      exact hR x0 x1 v4 (x3 + 1)
    · refine s_iload_n dX0_firstWord_34 rfl ?_
      exact s_ireturn dX0_firstWord_35 rfl rfl
def WX0_firstWord_4 : Nat → Nat → Int32 → Int32 → Int32 → qP Int32
  | 0 => fun _ _ _ _ => qfail
  | N + 1 => fun x0 x1 x2 x3 => UX0_firstWord_4 (WX0_firstWord_4  N)  x0 x1 x2 x3
theorem WX0_firstWord_4_ok {l : Launch} {g : qG} {d n : Nat} : ∀ (N : Nat) (x0 : Nat) (x1 : Int32) (x2 : Int32) (x3 : Int32), qS l g mX0_firstWord (d + 2) n 0 0 0 0 cvI 4 [(0, .ref x0), (1, .int x1), (2, .int x2), (3, .int x3)] [] (WX0_firstWord_4  N x0 x1 x2 x3) := by
  intro N
  induction N with
  | zero => intro x0 x1 x2 x3; exact s_fail
  | succ N ih => intro x0 x1 x2 x3; exact UX0_firstWord_4_ok ih  x0 x1 x2 x3
def FX0_firstWord (x0 : Nat) (x1 : Int32) : qP Int32 :=
WX0_firstWord_4 1000000 x0 x1 (0 : Int32) (0 : Int32)
set_option maxRecDepth 100000 in
set_option maxHeartbeats 4000000 in
theorem FX0_firstWord_ok {l : Launch} {g : qG} {d n : Nat} (x0 : Nat) (x1 : Int32) : qS l g mX0_firstWord (d + 2) n 0 0 0 0 cvI 0 [(0, .ref x0), (1, .int x1)] [] (FX0_firstWord x0 x1) := by
  unfold FX0_firstWord
  refine s_iconst (v := 0) dX0_firstWord_0 (by decide) ?_
  refine s_istore_n (lv' := [(2, .int (0 : Int32)), (0, .ref x0), (1, .int x1)]) dX0_firstWord_1 (by decide) rfl ?_
  refine s_iconst (v := 0) dX0_firstWord_2 (by decide) ?_
  refine s_istore_n (lv' := [(3, .int (0 : Int32)), (2, .int (0 : Int32)), (0, .ref x0), (1, .int x1)]) dX0_firstWord_3 (by decide) rfl ?_
  refine s_locals [2, 3, 1, 0] rfl ?_
  exact WX0_firstWord_4_ok  1000000 x0 x1 (0 : Int32) (0 : Int32)
theorem CX0_firstWord {l : Launch} {g : qG} {d : Nat} (x0 : Nat) (x1 : Int32) : qCt l g mX0_firstWord (d + 2) 0 0 cvI [.ref x0, .int x1] (FX0_firstWord x0 x1) := s_of pn_X0 (Nat.le_of_ble_eq_true rfl) fun n => FX0_firstWord_ok x0 x1
def UX0_unbroken_4 (R : Nat → Int32 → Int32 → qP Int32) (x0 : Nat) (x1 : Int32) (x2 : Int32) : qP Int32 :=
if (4 : Int32) ≤ x2 then (
qr x1) else (
qb (qcl 0 x0) fun _ => qb (FX0_firstWord x0 x2) fun v1 =>
if v1 = (-1 : Int32) then (
R x0 (x1 ||| ((1 : Int32) <<< (x2 &&& 31))) (x2 + 1)) else (
R x0 x1 (x2 + 1)))
set_option maxRecDepth 100000 in
set_option maxHeartbeats 4000000 in
theorem UX0_unbroken_4_ok {l : Launch} {g : qG} {d n : Nat} {R : Nat → Int32 → Int32 → qP Int32} (hR : ∀ (x0 : Nat) (x1 : Int32) (x2 : Int32), qS l g mX0_unbroken (d + 3) n 0 0 0 0 cvI 4 [(0, .ref x0), (1, .int x1), (2, .int x2)] [] (R x0 x1 x2)) (x0 : Nat) (x1 : Int32) (x2 : Int32) : qS l g mX0_unbroken (d + 3) n 0 0 0 0 cvI 4 [(0, .ref x0), (1, .int x1), (2, .int x2)] [] (UX0_unbroken_4 R x0 x1 x2) := by
  unfold UX0_unbroken_4
  refine s_iload_n dX0_unbroken_4 rfl ?_
  refine s_iconst (v := 4) dX0_unbroken_5 (by decide) ?_
  refine s_icmp_ge (tgt := 30) dX0_unbroken_6 (by decide) (fun c1 => ?_) (fun c1 => ?_)
  · refine s_iload_n dX0_unbroken_30 rfl ?_
    exact s_ireturn dX0_unbroken_31 rfl rfl
  · refine s_aload_n dX0_unbroken_9 rfl ?_
    refine s_iload_n dX0_unbroken_10 rfl ?_
    refine s_virtI (as := [.int x2]) (rest := []) dX0_unbroken_11 vX0_58 (CX0_firstWord _ _) (Nat.le_of_ble_eq_true rfl) ⟨Nat.le_refl _, Nat.le_refl _⟩ fun v1 => ?_
    refine s_iconst (v := -1) dX0_unbroken_14 (by decide) ?_
    refine s_icmp_ne (tgt := 24) dX0_unbroken_15 (by decide) (fun c2 => ?_) (fun c2 => ?_)
    · refine s_iload_n dX0_unbroken_18 rfl ?_
      refine s_iconst (v := 1) dX0_unbroken_19 (by decide) ?_
      refine s_iload_n dX0_unbroken_20 rfl ?_
      refine s_ishl dX0_unbroken_21 ?_
      refine s_ior dX0_unbroken_22 ?_
      refine s_istore_n (lv' := [(1, .int (x1 ||| ((1 : Int32) <<< (x2 &&& 31)))), (0, .ref x0), (2, .int x2)]) dX0_unbroken_23 (by decide) rfl ?_
      refine s_iinc (lv' := [(2, .int (x2 + 1)), (1, .int (x1 ||| ((1 : Int32) <<< (x2 &&& 31)))), (0, .ref x0)]) dX0_unbroken_24 rfl (by decide) rfl ?_
      refine s_goto (tgt := 4) dX0_unbroken_27 (by decide) ?_
      refine s_locals [2, 1, 0] rfl ?_
      exact hR x0 (x1 ||| ((1 : Int32) <<< (x2 &&& 31))) (x2 + 1)
    · refine s_iinc (lv' := [(2, .int (x2 + 1)), (0, .ref x0), (1, .int x1)]) dX0_unbroken_24 rfl (by decide) rfl ?_
      refine s_goto (tgt := 4) dX0_unbroken_27 (by decide) ?_
      refine s_locals [1, 2, 0] rfl ?_
      exact hR x0 x1 (x2 + 1)
def WX0_unbroken_4 : Nat → Nat → Int32 → Int32 → qP Int32
  | 0 => fun _ _ _ => qfail
  | N + 1 => fun x0 x1 x2 => UX0_unbroken_4 (WX0_unbroken_4  N)  x0 x1 x2
theorem WX0_unbroken_4_ok {l : Launch} {g : qG} {d n : Nat} : ∀ (N : Nat) (x0 : Nat) (x1 : Int32) (x2 : Int32), qS l g mX0_unbroken (d + 3) n 0 0 0 0 cvI 4 [(0, .ref x0), (1, .int x1), (2, .int x2)] [] (WX0_unbroken_4  N x0 x1 x2) := by
  intro N
  induction N with
  | zero => intro x0 x1 x2; exact s_fail
  | succ N ih => intro x0 x1 x2; exact UX0_unbroken_4_ok ih  x0 x1 x2
def FX0_unbroken (x0 : Nat) : qP Int32 :=
WX0_unbroken_4 1000000 x0 (0 : Int32) (0 : Int32)
set_option maxRecDepth 100000 in
set_option maxHeartbeats 4000000 in
theorem FX0_unbroken_ok {l : Launch} {g : qG} {d n : Nat} (x0 : Nat) : qS l g mX0_unbroken (d + 3) n 0 0 0 0 cvI 0 [(0, .ref x0)] [] (FX0_unbroken x0) := by
  unfold FX0_unbroken
  refine s_iconst (v := 0) dX0_unbroken_0 (by decide) ?_
  refine s_istore_n (lv' := [(1, .int (0 : Int32)), (0, .ref x0)]) dX0_unbroken_1 (by decide) rfl ?_
  refine s_iconst (v := 0) dX0_unbroken_2 (by decide) ?_
  refine s_istore_n (lv' := [(2, .int (0 : Int32)), (1, .int (0 : Int32)), (0, .ref x0)]) dX0_unbroken_3 (by decide) rfl ?_
  refine s_locals [2, 1, 0] rfl ?_
  exact WX0_unbroken_4_ok  1000000 x0 (0 : Int32) (0 : Int32)
theorem CX0_unbroken {l : Launch} {g : qG} {d : Nat} (x0 : Nat) : qCt l g mX0_unbroken (d + 3) 0 0 cvI [.ref x0] (FX0_unbroken x0) := s_of pn_X0 (Nat.le_of_ble_eq_true rfl) fun n => FX0_unbroken_ok x0
def UX0_reachEnd_11 (R : Nat → Int32 → Int32 → Int32 → qP Unit) (K38 : Nat → Int32 → Int32 → qP Unit) (x0 : Nat) (x1 : Int32) (x2 : Int32) (x3 : Int32) : qP Unit :=
qb (gI 0 x0 1) fun v1 =>
if v1 ≤ x3 then (
K38 x0 x1 x2) else (
qb (gR 0 x0 0) fun v2 =>
qb (aI v2 x3) fun v3 =>
qb (qcl 0 x0) fun _ => qb (FX0_step x0 x1 x2 v3) fun v4 =>
R x0 x1 v4 (x3 + 1))
set_option maxRecDepth 100000 in
set_option maxHeartbeats 4000000 in
theorem UX0_reachEnd_11_ok {l : Launch} {g : qG} {d n : Nat} {R : Nat → Int32 → Int32 → Int32 → qP Unit} (hR : ∀ (x0 : Nat) (x1 : Int32) (x2 : Int32) (x3 : Int32), qS l g mX0_reachEnd (d + 2) n 0 0 0 0 cvV 11 [(0, .ref x0), (1, .int x1), (2, .int x2), (3, .int x3)] [] (R x0 x1 x2 x3)) {K38 : Nat → Int32 → Int32 → qP Unit} (hK38 : ∀ (x0 : Nat) (x1 : Int32) (x2 : Int32), qS l g mX0_reachEnd (d + 2) n 0 0 0 0 cvV 38 [(0, .ref x0), (1, .int x1), (2, .int x2)] [] (K38 x0 x1 x2)) (x0 : Nat) (x1 : Int32) (x2 : Int32) (x3 : Int32) : qS l g mX0_reachEnd (d + 2) n 0 0 0 0 cvV 11 [(0, .ref x0), (1, .int x1), (2, .int x2), (3, .int x3)] [] (UX0_reachEnd_11 R K38 x0 x1 x2 x3) := by
  unfold UX0_reachEnd_11
  refine s_iload_n dX0_reachEnd_11 rfl ?_
  refine s_aload_n dX0_reachEnd_12 rfl ?_
  refine s_gI dX0_reachEnd_13 fX0_15 fun v1 => ?_
  refine s_icmp_ge (tgt := 38) dX0_reachEnd_16 (by decide) (fun c1 => ?_) (fun c1 => ?_)
  · refine s_locals [0, 1, 2] rfl ?_
    exact hK38 x0 x1 x2
  · refine s_aload_n dX0_reachEnd_19 rfl ?_
    refine s_iload_n dX0_reachEnd_20 rfl ?_
    refine s_iload_n dX0_reachEnd_21 rfl ?_
    refine s_aload_n dX0_reachEnd_22 rfl ?_
    refine s_gR dX0_reachEnd_23 fX0_11 fun v2 => ?_
    refine s_iload_n dX0_reachEnd_26 rfl ?_
    refine s_aI dX0_reachEnd_27 fun v3 => ?_
    refine s_virtI (as := [.int x1, .int x2, .int v3]) (rest := []) dX0_reachEnd_28 vX0_50 (CX0_step _ _ _ _) (Nat.le_of_ble_eq_true rfl) ⟨Nat.le_refl _, Nat.le_refl _⟩ fun v4 => ?_
    refine s_istore_n (lv' := [(2, .int v4), (0, .ref x0), (1, .int x1), (3, .int x3)]) dX0_reachEnd_31 (by decide) rfl ?_
    refine s_iinc (lv' := [(3, .int (x3 + 1)), (2, .int v4), (0, .ref x0), (1, .int x1)]) dX0_reachEnd_32 rfl (by decide) rfl ?_
    refine s_goto (tgt := 11) dX0_reachEnd_35 (by decide) ?_
    refine s_locals [2, 3, 1, 0] rfl ?_
    exact hR x0 x1 v4 (x3 + 1)
def WX0_reachEnd_11 (K38 : Nat → Int32 → Int32 → qP Unit) : Nat → Nat → Int32 → Int32 → Int32 → qP Unit
  | 0 => fun _ _ _ _ => qfail
  | N + 1 => fun x0 x1 x2 x3 => UX0_reachEnd_11 (WX0_reachEnd_11 K38 N) K38 x0 x1 x2 x3
theorem WX0_reachEnd_11_ok {l : Launch} {g : qG} {d n : Nat} {K38 : Nat → Int32 → Int32 → qP Unit} (hK38 : ∀ (x0 : Nat) (x1 : Int32) (x2 : Int32), qS l g mX0_reachEnd (d + 2) n 0 0 0 0 cvV 38 [(0, .ref x0), (1, .int x1), (2, .int x2)] [] (K38 x0 x1 x2)) : ∀ (N : Nat) (x0 : Nat) (x1 : Int32) (x2 : Int32) (x3 : Int32), qS l g mX0_reachEnd (d + 2) n 0 0 0 0 cvV 11 [(0, .ref x0), (1, .int x1), (2, .int x2), (3, .int x3)] [] (WX0_reachEnd_11 K38 N x0 x1 x2 x3) := by
  intro N
  induction N with
  | zero => intro x0 x1 x2 x3; exact s_fail
  | succ N ih => intro x0 x1 x2 x3; exact UX0_reachEnd_11_ok ih hK38 x0 x1 x2 x3
def UX0_reachEnd_38 (R : Nat → Int32 → qP Unit) (x0 : Nat) (x1 : Int32) (x2 : Int32) : qP Unit :=
qb (gR 0 x0 4) fun v1 =>
qb (sI v1 x1 x2) fun _ =>
R x0 (x1 + 1)
set_option maxRecDepth 100000 in
set_option maxHeartbeats 4000000 in
theorem UX0_reachEnd_38_ok {l : Launch} {g : qG} {d n : Nat} {R : Nat → Int32 → qP Unit} (hR : ∀ (x0 : Nat) (x1 : Int32), qS l g mX0_reachEnd (d + 2) n 0 0 0 0 cvV 2 [(0, .ref x0), (1, .int x1)] [] (R x0 x1)) (x0 : Nat) (x1 : Int32) (x2 : Int32) : qS l g mX0_reachEnd (d + 2) n 0 0 0 0 cvV 38 [(0, .ref x0), (1, .int x1), (2, .int x2)] [] (UX0_reachEnd_38 R x0 x1 x2) := by
  unfold UX0_reachEnd_38
  refine s_aload_n dX0_reachEnd_38 rfl ?_
  refine s_gR dX0_reachEnd_39 fX0_25 fun v1 => ?_
  refine s_iload_n dX0_reachEnd_42 rfl ?_
  refine s_iload_n dX0_reachEnd_43 rfl ?_
  refine s_sI dX0_reachEnd_44 ?_
  refine s_iinc (lv' := [(1, .int (x1 + 1)), (0, .ref x0), (2, .int x2)]) dX0_reachEnd_45 rfl (by decide) rfl ?_
  refine s_goto (tgt := 2) dX0_reachEnd_48 (by decide) ?_
  refine s_locals [1, 0] rfl ?_
  exact hR x0 (x1 + 1)
def UX0_reachEnd_2 (R : Nat → Int32 → qP Unit) (x0 : Nat) (x1 : Int32) : qP Unit :=
if (4 : Int32) ≤ x1 then (
qr ()) else (
WX0_reachEnd_11 (UX0_reachEnd_38 R) 1000000 x0 x1 (0 : Int32) (0 : Int32))
set_option maxRecDepth 100000 in
set_option maxHeartbeats 4000000 in
theorem UX0_reachEnd_2_ok {l : Launch} {g : qG} {d n : Nat} {R : Nat → Int32 → qP Unit} (hR : ∀ (x0 : Nat) (x1 : Int32), qS l g mX0_reachEnd (d + 2) n 0 0 0 0 cvV 2 [(0, .ref x0), (1, .int x1)] [] (R x0 x1)) (x0 : Nat) (x1 : Int32) : qS l g mX0_reachEnd (d + 2) n 0 0 0 0 cvV 2 [(0, .ref x0), (1, .int x1)] [] (UX0_reachEnd_2 R x0 x1) := by
  unfold UX0_reachEnd_2
  refine s_iload_n dX0_reachEnd_2 rfl ?_
  refine s_iconst (v := 4) dX0_reachEnd_3 (by decide) ?_
  refine s_icmp_ge (tgt := 51) dX0_reachEnd_4 (by decide) (fun c1 => ?_) (fun c1 => ?_)
  · exact s_return dX0_reachEnd_51 rfl
  · refine s_iconst (v := 0) dX0_reachEnd_7 (by decide) ?_
    refine s_istore_n (lv' := [(2, .int (0 : Int32)), (0, .ref x0), (1, .int x1)]) dX0_reachEnd_8 (by decide) rfl ?_
    refine s_iconst (v := 0) dX0_reachEnd_9 (by decide) ?_
    refine s_istore_n (lv' := [(3, .int (0 : Int32)), (2, .int (0 : Int32)), (0, .ref x0), (1, .int x1)]) dX0_reachEnd_10 (by decide) rfl ?_
    refine s_locals [2, 3, 1, 0] rfl ?_
    exact WX0_reachEnd_11_ok (UX0_reachEnd_38_ok hR) 1000000 x0 x1 (0 : Int32) (0 : Int32)
def WX0_reachEnd_2 : Nat → Nat → Int32 → qP Unit
  | 0 => fun _ _ => qfail
  | N + 1 => fun x0 x1 => UX0_reachEnd_2 (WX0_reachEnd_2  N)  x0 x1
theorem WX0_reachEnd_2_ok {l : Launch} {g : qG} {d n : Nat} : ∀ (N : Nat) (x0 : Nat) (x1 : Int32), qS l g mX0_reachEnd (d + 2) n 0 0 0 0 cvV 2 [(0, .ref x0), (1, .int x1)] [] (WX0_reachEnd_2  N x0 x1) := by
  intro N
  induction N with
  | zero => intro x0 x1; exact s_fail
  | succ N ih => intro x0 x1; exact UX0_reachEnd_2_ok ih  x0 x1
def FX0_reachEnd (x0 : Nat) : qP Unit :=
WX0_reachEnd_2 1000000 x0 (0 : Int32)
set_option maxRecDepth 100000 in
set_option maxHeartbeats 4000000 in
theorem FX0_reachEnd_ok {l : Launch} {g : qG} {d n : Nat} (x0 : Nat) : qS l g mX0_reachEnd (d + 2) n 0 0 0 0 cvV 0 [(0, .ref x0)] [] (FX0_reachEnd x0) := by
  unfold FX0_reachEnd
  refine s_iconst (v := 0) dX0_reachEnd_0 (by decide) ?_
  refine s_istore_n (lv' := [(1, .int (0 : Int32)), (0, .ref x0)]) dX0_reachEnd_1 (by decide) rfl ?_
  refine s_locals [1, 0] rfl ?_
  exact WX0_reachEnd_2_ok  1000000 x0 (0 : Int32)
theorem CX0_reachEnd {l : Launch} {g : qG} {d : Nat} (x0 : Nat) : qCt l g mX0_reachEnd (d + 2) 0 0 cvV [.ref x0] (FX0_reachEnd x0) := s_of pn_X0 (Nat.le_of_ble_eq_true rfl) fun n => FX0_reachEnd_ok x0
def UX0_writeMore_7 (R : Nat → Int32 → Int32 → qP Unit) (x0 : Nat) (x3 : Int32) (x4 : Int32) : qP Unit :=
if x4 < 0 then (
qr ()) else (
qb (gR 0 x0 5) fun v1 =>
qb (sI v1 x4 (x3 - x3 / (4 : Int32) * (4 : Int32))) fun _ =>
R x0 (x3 / (4 : Int32)) (x4 + (-1)))
set_option maxRecDepth 100000 in
set_option maxHeartbeats 4000000 in
theorem UX0_writeMore_7_ok {l : Launch} {g : qG} {d n : Nat} {R : Nat → Int32 → Int32 → qP Unit} (hR : ∀ (x0 : Nat) (x3 : Int32) (x4 : Int32), qS l g mX0_writeMore d n 0 0 0 0 cvV 7 [(0, .ref x0), (3, .int x3), (4, .int x4)] [] (R x0 x3 x4)) (x0 : Nat) (x3 : Int32) (x4 : Int32) : qS l g mX0_writeMore d n 0 0 0 0 cvV 7 [(0, .ref x0), (3, .int x3), (4, .int x4)] [] (UX0_writeMore_7 R x0 x3 x4) := by
  unfold UX0_writeMore_7
  refine s_iload dX0_writeMore_7 rfl ?_
  refine s_if_lt (tgt := 32) dX0_writeMore_9 (by decide) (fun c1 => ?_) (fun c1 => ?_)
  · exact s_return dX0_writeMore_32 rfl
  · refine s_aload_n dX0_writeMore_12 rfl ?_
    refine s_gR dX0_writeMore_13 fX0_28 fun v1 => ?_
    refine s_iload dX0_writeMore_16 rfl ?_
    refine s_iload_n dX0_writeMore_18 rfl ?_
    refine s_iconst (v := 4) dX0_writeMore_19 (by decide) ?_
    refine s_irem dX0_writeMore_20 (by decide) ?_
    refine s_sI dX0_writeMore_21 ?_
    refine s_iload_n dX0_writeMore_22 rfl ?_
    refine s_iconst (v := 4) dX0_writeMore_23 (by decide) ?_
    refine s_idiv dX0_writeMore_24 (by decide) ?_
    refine s_istore_n (lv' := [(3, .int (x3 / (4 : Int32))), (0, .ref x0), (4, .int x4)]) dX0_writeMore_25 (by decide) rfl ?_
    refine s_iinc (lv' := [(4, .int (x4 + (-1))), (3, .int (x3 / (4 : Int32))), (0, .ref x0)]) dX0_writeMore_26 rfl (by decide) rfl ?_
    refine s_goto (tgt := 7) dX0_writeMore_29 (by decide) ?_
    refine s_locals [2, 1, 0] rfl ?_
    exact hR x0 (x3 / (4 : Int32)) (x4 + (-1))
def WX0_writeMore_7 : Nat → Nat → Int32 → Int32 → qP Unit
  | 0 => fun _ _ _ => qfail
  | N + 1 => fun x0 x3 x4 => UX0_writeMore_7 (WX0_writeMore_7  N)  x0 x3 x4
theorem WX0_writeMore_7_ok {l : Launch} {g : qG} {d n : Nat} : ∀ (N : Nat) (x0 : Nat) (x3 : Int32) (x4 : Int32), qS l g mX0_writeMore d n 0 0 0 0 cvV 7 [(0, .ref x0), (3, .int x3), (4, .int x4)] [] (WX0_writeMore_7  N x0 x3 x4) := by
  intro N
  induction N with
  | zero => intro x0 x3 x4; exact s_fail
  | succ N ih => intro x0 x3 x4; exact UX0_writeMore_7_ok ih  x0 x3 x4
def FX0_writeMore (x0 : Nat) (x1 : Int32) (x2 : Int32) : qP Unit :=
WX0_writeMore_7 1000000 x0 x2 (x1 - (1 : Int32))
set_option maxRecDepth 100000 in
set_option maxHeartbeats 4000000 in
theorem FX0_writeMore_ok {l : Launch} {g : qG} {d n : Nat} (x0 : Nat) (x1 : Int32) (x2 : Int32) : qS l g mX0_writeMore d n 0 0 0 0 cvV 0 [(0, .ref x0), (1, .int x1), (2, .int x2)] [] (FX0_writeMore x0 x1 x2) := by
  unfold FX0_writeMore
  refine s_iload_n dX0_writeMore_0 rfl ?_
  refine s_istore_n (lv' := [(3, .int x2), (0, .ref x0), (1, .int x1), (2, .int x2)]) dX0_writeMore_1 (by decide) rfl ?_
  refine s_iload_n dX0_writeMore_2 rfl ?_
  refine s_iconst (v := 1) dX0_writeMore_3 (by decide) ?_
  refine s_isub dX0_writeMore_4 ?_
  refine s_istore (lv' := [(4, .int (x1 - (1 : Int32))), (3, .int x2), (0, .ref x0), (1, .int x1), (2, .int x2)]) dX0_writeMore_5 (by decide) rfl ?_
  refine s_locals [2, 1, 0] rfl ?_
  exact WX0_writeMore_7_ok  1000000 x0 x2 (x1 - (1 : Int32))
theorem CX0_writeMore {l : Launch} {g : qG} {d : Nat} (x0 : Nat) (x1 : Int32) (x2 : Int32) : qCt l g mX0_writeMore d 0 0 cvV [.ref x0, .int x1, .int x2] (FX0_writeMore x0 x1 x2) := s_of pn_X0 (Nat.le_of_ble_eq_true rfl) fun n => FX0_writeMore_ok x0 x1 x2
def UX0_keeps_18 (R : Nat → Int32 → Int32 → Int32 → Int32 → Int32 → qP Int32) (K66 : Nat → Int32 → Int32 → Int32 → qP Int32) (x0 : Nat) (x1 : Int32) (x2 : Int32) (x3 : Int32) (x4 : Int32) (x5 : Int32) : qP Int32 :=
if x2 ≤ x5 then (
K66 x0 x1 x2 x3) else (
qb (FX11_isSet x1 x3) fun v1 =>
if v1 = 0 then (
K66 x0 x1 x2 x3) else (
qb (gR 0 x0 5) fun v2 =>
qb (aI v2 x5) fun v3 =>
qb (qcl 0 x0) fun _ => qb (FX0_step x0 x3 x4 v3) fun v4 =>
qb (qcl 0 x0) fun _ => qb (FX0_isBroken x0 x3 v4) fun v5 =>
if v5 = 0 then (
R x0 x1 x2 x3 v4 (x5 + 1)) else (
qr (0 : Int32))))
set_option maxRecDepth 100000 in
set_option maxHeartbeats 4000000 in
theorem UX0_keeps_18_ok {l : Launch} {g : qG} {d n : Nat} {R : Nat → Int32 → Int32 → Int32 → Int32 → Int32 → qP Int32} (hR : ∀ (x0 : Nat) (x1 : Int32) (x2 : Int32) (x3 : Int32) (x4 : Int32) (x5 : Int32), qS l g mX0_keeps (d + 2) n 0 0 0 0 cvI 18 [(0, .ref x0), (1, .int x1), (2, .int x2), (3, .int x3), (4, .int x4), (5, .int x5)] [] (R x0 x1 x2 x3 x4 x5)) {K66 : Nat → Int32 → Int32 → Int32 → qP Int32} (hK66 : ∀ (x0 : Nat) (x1 : Int32) (x2 : Int32) (x3 : Int32), qS l g mX0_keeps (d + 2) n 0 0 0 0 cvI 66 [(0, .ref x0), (1, .int x1), (2, .int x2), (3, .int x3)] [] (K66 x0 x1 x2 x3)) (x0 : Nat) (x1 : Int32) (x2 : Int32) (x3 : Int32) (x4 : Int32) (x5 : Int32) : qS l g mX0_keeps (d + 2) n 0 0 0 0 cvI 18 [(0, .ref x0), (1, .int x1), (2, .int x2), (3, .int x3), (4, .int x4), (5, .int x5)] [] (UX0_keeps_18 R K66 x0 x1 x2 x3 x4 x5) := by
  unfold UX0_keeps_18
  refine s_iload dX0_keeps_18 rfl ?_
  refine s_iload_n dX0_keeps_20 rfl ?_
  refine s_icmp_ge (tgt := 66) dX0_keeps_21 (by decide) (fun c1 => ?_) (fun c1 => ?_)
  · refine s_locals [0, 1, 2, 3] rfl ?_
    exact hK66 x0 x1 x2 x3
  · refine s_iload_n dX0_keeps_24 rfl ?_
    refine s_iload_n dX0_keeps_25 rfl ?_
    refine s_staticNI (as := [.int x1, .int x3]) (rest := []) dX0_keeps_26 sX0_62 (CX11_isSet _ _) (Nat.le_of_ble_eq_true rfl) ⟨Nat.le_refl _, Nat.le_refl _⟩ fun v1 => ?_
    refine s_if_eq (tgt := 66) dX0_keeps_29 (by decide) (fun c2 => ?_) (fun c2 => ?_)
    · refine s_locals [0, 1, 2, 3] rfl ?_
      exact hK66 x0 x1 x2 x3
    · refine s_aload_n dX0_keeps_32 rfl ?_
      refine s_iload_n dX0_keeps_33 rfl ?_
      refine s_iload dX0_keeps_34 rfl ?_
      refine s_aload_n dX0_keeps_36 rfl ?_
      refine s_gR dX0_keeps_37 fX0_28 fun v2 => ?_
      refine s_iload dX0_keeps_40 rfl ?_
      refine s_aI dX0_keeps_42 fun v3 => ?_
      refine s_virtI (as := [.int x3, .int x4, .int v3]) (rest := []) dX0_keeps_43 vX0_50 (CX0_step _ _ _ _) (Nat.le_of_ble_eq_true rfl) ⟨Nat.le_refl _, Nat.le_refl _⟩ fun v4 => ?_
      refine s_istore (lv' := [(4, .int v4), (0, .ref x0), (1, .int x1), (2, .int x2), (3, .int x3), (5, .int x5)]) dX0_keeps_46 (by decide) rfl ?_
      refine s_aload_n dX0_keeps_48 rfl ?_
      refine s_iload_n dX0_keeps_49 rfl ?_
      refine s_iload dX0_keeps_50 rfl ?_
      refine s_virtI (as := [.int x3, .int v4]) (rest := []) dX0_keeps_52 vX0_54 (CX0_isBroken _ _ _) (Nat.le_of_ble_eq_true rfl) ⟨Nat.le_refl _, Nat.le_refl _⟩ fun v5 => ?_
      refine s_if_eq (tgt := 60) dX0_keeps_55 (by decide) (fun c3 => ?_) (fun c3 => ?_)
      · refine s_iinc (lv' := [(5, .int (x5 + 1)), (4, .int v4), (0, .ref x0), (1, .int x1), (2, .int x2), (3, .int x3)]) dX0_keeps_60 rfl (by decide) rfl ?_
        refine s_goto (tgt := 18) dX0_keeps_63 (by decide) ?_
        refine s_locals [2, 3, 4, 5, 1, 0] rfl ?_
        exact hR x0 x1 x2 x3 v4 (x5 + 1)
      · refine s_iconst (v := 0) dX0_keeps_58 (by decide) ?_
        exact s_ireturn dX0_keeps_59 rfl (by decide)
def WX0_keeps_18 (K66 : Nat → Int32 → Int32 → Int32 → qP Int32) : Nat → Nat → Int32 → Int32 → Int32 → Int32 → Int32 → qP Int32
  | 0 => fun _ _ _ _ _ _ => qfail
  | N + 1 => fun x0 x1 x2 x3 x4 x5 => UX0_keeps_18 (WX0_keeps_18 K66 N) K66 x0 x1 x2 x3 x4 x5
theorem WX0_keeps_18_ok {l : Launch} {g : qG} {d n : Nat} {K66 : Nat → Int32 → Int32 → Int32 → qP Int32} (hK66 : ∀ (x0 : Nat) (x1 : Int32) (x2 : Int32) (x3 : Int32), qS l g mX0_keeps (d + 2) n 0 0 0 0 cvI 66 [(0, .ref x0), (1, .int x1), (2, .int x2), (3, .int x3)] [] (K66 x0 x1 x2 x3)) : ∀ (N : Nat) (x0 : Nat) (x1 : Int32) (x2 : Int32) (x3 : Int32) (x4 : Int32) (x5 : Int32), qS l g mX0_keeps (d + 2) n 0 0 0 0 cvI 18 [(0, .ref x0), (1, .int x1), (2, .int x2), (3, .int x3), (4, .int x4), (5, .int x5)] [] (WX0_keeps_18 K66 N x0 x1 x2 x3 x4 x5) := by
  intro N
  induction N with
  | zero => intro x0 x1 x2 x3 x4 x5; exact s_fail
  | succ N ih => intro x0 x1 x2 x3 x4 x5; exact UX0_keeps_18_ok ih hK66 x0 x1 x2 x3 x4 x5
def UX0_keeps_66 (R : Nat → Int32 → Int32 → Int32 → qP Int32) (x0 : Nat) (x1 : Int32) (x2 : Int32) (x3 : Int32) : qP Int32 :=
R x0 x1 x2 (x3 + 1)
set_option maxRecDepth 100000 in
set_option maxHeartbeats 4000000 in
theorem UX0_keeps_66_ok {l : Launch} {g : qG} {d n : Nat} {R : Nat → Int32 → Int32 → Int32 → qP Int32} (hR : ∀ (x0 : Nat) (x1 : Int32) (x2 : Int32) (x3 : Int32), qS l g mX0_keeps (d + 2) n 0 0 0 0 cvI 2 [(0, .ref x0), (1, .int x1), (2, .int x2), (3, .int x3)] [] (R x0 x1 x2 x3)) (x0 : Nat) (x1 : Int32) (x2 : Int32) (x3 : Int32) : qS l g mX0_keeps (d + 2) n 0 0 0 0 cvI 66 [(0, .ref x0), (1, .int x1), (2, .int x2), (3, .int x3)] [] (UX0_keeps_66 R x0 x1 x2 x3) := by
  unfold UX0_keeps_66
  refine s_iinc (lv' := [(3, .int (x3 + 1)), (0, .ref x0), (1, .int x1), (2, .int x2)]) dX0_keeps_66 rfl (by decide) rfl ?_
  refine s_goto (tgt := 2) dX0_keeps_69 (by decide) ?_
  refine s_locals [1, 2, 3, 0] rfl ?_
  exact hR x0 x1 x2 (x3 + 1)
def UX0_keeps_2 (R : Nat → Int32 → Int32 → Int32 → qP Int32) (x0 : Nat) (x1 : Int32) (x2 : Int32) (x3 : Int32) : qP Int32 :=
if (4 : Int32) ≤ x3 then (
qr (1 : Int32)) else (
qb (gR 0 x0 4) fun v1 =>
qb (aI v1 x3) fun v2 =>
WX0_keeps_18 (UX0_keeps_66 R) 1000000 x0 x1 x2 x3 v2 (0 : Int32))
set_option maxRecDepth 100000 in
set_option maxHeartbeats 4000000 in
theorem UX0_keeps_2_ok {l : Launch} {g : qG} {d n : Nat} {R : Nat → Int32 → Int32 → Int32 → qP Int32} (hR : ∀ (x0 : Nat) (x1 : Int32) (x2 : Int32) (x3 : Int32), qS l g mX0_keeps (d + 2) n 0 0 0 0 cvI 2 [(0, .ref x0), (1, .int x1), (2, .int x2), (3, .int x3)] [] (R x0 x1 x2 x3)) (x0 : Nat) (x1 : Int32) (x2 : Int32) (x3 : Int32) : qS l g mX0_keeps (d + 2) n 0 0 0 0 cvI 2 [(0, .ref x0), (1, .int x1), (2, .int x2), (3, .int x3)] [] (UX0_keeps_2 R x0 x1 x2 x3) := by
  unfold UX0_keeps_2
  refine s_iload_n dX0_keeps_2 rfl ?_
  refine s_iconst (v := 4) dX0_keeps_3 (by decide) ?_
  refine s_icmp_ge (tgt := 72) dX0_keeps_4 (by decide) (fun c1 => ?_) (fun c1 => ?_)
  · refine s_iconst (v := 1) dX0_keeps_72 (by decide) ?_
    exact s_ireturn dX0_keeps_73 rfl (by decide)
  · refine s_aload_n dX0_keeps_7 rfl ?_
    refine s_gR dX0_keeps_8 fX0_25 fun v1 => ?_
    refine s_iload_n dX0_keeps_11 rfl ?_
    refine s_aI dX0_keeps_12 fun v2 => ?_
    refine s_istore (lv' := [(4, .int v2), (0, .ref x0), (1, .int x1), (2, .int x2), (3, .int x3)]) dX0_keeps_13 (by decide) rfl ?_
    refine s_iconst (v := 0) dX0_keeps_15 (by decide) ?_
    refine s_istore (lv' := [(5, .int (0 : Int32)), (4, .int v2), (0, .ref x0), (1, .int x1), (2, .int x2), (3, .int x3)]) dX0_keeps_16 (by decide) rfl ?_
    refine s_locals [2, 3, 4, 5, 1, 0] rfl ?_
    exact WX0_keeps_18_ok (UX0_keeps_66_ok hR) 1000000 x0 x1 x2 x3 v2 (0 : Int32)
def WX0_keeps_2 : Nat → Nat → Int32 → Int32 → Int32 → qP Int32
  | 0 => fun _ _ _ _ => qfail
  | N + 1 => fun x0 x1 x2 x3 => UX0_keeps_2 (WX0_keeps_2  N)  x0 x1 x2 x3
theorem WX0_keeps_2_ok {l : Launch} {g : qG} {d n : Nat} : ∀ (N : Nat) (x0 : Nat) (x1 : Int32) (x2 : Int32) (x3 : Int32), qS l g mX0_keeps (d + 2) n 0 0 0 0 cvI 2 [(0, .ref x0), (1, .int x1), (2, .int x2), (3, .int x3)] [] (WX0_keeps_2  N x0 x1 x2 x3) := by
  intro N
  induction N with
  | zero => intro x0 x1 x2 x3; exact s_fail
  | succ N ih => intro x0 x1 x2 x3; exact UX0_keeps_2_ok ih  x0 x1 x2 x3
def FX0_keeps (x0 : Nat) (x1 : Int32) (x2 : Int32) : qP Int32 :=
WX0_keeps_2 1000000 x0 x1 x2 (0 : Int32)
set_option maxRecDepth 100000 in
set_option maxHeartbeats 4000000 in
theorem FX0_keeps_ok {l : Launch} {g : qG} {d n : Nat} (x0 : Nat) (x1 : Int32) (x2 : Int32) : qS l g mX0_keeps (d + 2) n 0 0 0 0 cvI 0 [(0, .ref x0), (1, .int x1), (2, .int x2)] [] (FX0_keeps x0 x1 x2) := by
  unfold FX0_keeps
  refine s_iconst (v := 0) dX0_keeps_0 (by decide) ?_
  refine s_istore_n (lv' := [(3, .int (0 : Int32)), (0, .ref x0), (1, .int x1), (2, .int x2)]) dX0_keeps_1 (by decide) rfl ?_
  refine s_locals [1, 2, 3, 0] rfl ?_
  exact WX0_keeps_2_ok  1000000 x0 x1 x2 (0 : Int32)
theorem CX0_keeps {l : Launch} {g : qG} {d : Nat} (x0 : Nat) (x1 : Int32) (x2 : Int32) : qCt l g mX0_keeps (d + 2) 0 0 cvI [.ref x0, .int x1, .int x2] (FX0_keeps x0 x1 x2) := s_of pn_X0 (Nat.le_of_ble_eq_true rfl) fun n => FX0_keeps_ok x0 x1 x2
def UX0_fewestMore_63 (R : Nat → Int32 → Int32 → Int32 → Int32 → Int32 → qP Int32) (K100 : Nat → Int32 → Int32 → Int32 → Int32 → qP Int32) (x0 : Nat) (x1 : Int32) (x2 : Int32) (x3 : Int32) (x4 : Int32) (x5 : Int32) : qP Int32 :=
if x3 ≤ x5 then (
K100 x0 x1 x2 x3 x4) else (
qb (qcl 0 x0) fun _ => qb (FX0_writeMore x0 x4 ((x5 * (4 : Int32)) + x1)) fun v1 =>
qb (qcl 0 x0) fun _ => qb (FX0_keeps x0 x2 x4) fun v2 =>
if v2 = 0 then (
R x0 x1 x2 x3 x4 (x5 + 1)) else (
qr x4))
set_option maxRecDepth 100000 in
set_option maxHeartbeats 4000000 in
theorem UX0_fewestMore_63_ok {l : Launch} {g : qG} {d n : Nat} {R : Nat → Int32 → Int32 → Int32 → Int32 → Int32 → qP Int32} (hR : ∀ (x0 : Nat) (x1 : Int32) (x2 : Int32) (x3 : Int32) (x4 : Int32) (x5 : Int32), qS l g mX0_fewestMore (d + 4) n 0 0 0 0 cvI 63 [(0, .ref x0), (1, .int x1), (2, .int x2), (3, .int x3), (4, .int x4), (5, .int x5)] [] (R x0 x1 x2 x3 x4 x5)) {K100 : Nat → Int32 → Int32 → Int32 → Int32 → qP Int32} (hK100 : ∀ (x0 : Nat) (x1 : Int32) (x2 : Int32) (x3 : Int32) (x4 : Int32), qS l g mX0_fewestMore (d + 4) n 0 0 0 0 cvI 100 [(0, .ref x0), (1, .int x1), (2, .int x2), (3, .int x3), (4, .int x4)] [] (K100 x0 x1 x2 x3 x4)) (x0 : Nat) (x1 : Int32) (x2 : Int32) (x3 : Int32) (x4 : Int32) (x5 : Int32) : qS l g mX0_fewestMore (d + 4) n 0 0 0 0 cvI 63 [(0, .ref x0), (1, .int x1), (2, .int x2), (3, .int x3), (4, .int x4), (5, .int x5)] [] (UX0_fewestMore_63 R K100 x0 x1 x2 x3 x4 x5) := by
  unfold UX0_fewestMore_63
  refine s_iload dX0_fewestMore_63 rfl ?_
  refine s_iload_n dX0_fewestMore_65 rfl ?_
  refine s_icmp_ge (tgt := 100) dX0_fewestMore_66 (by decide) (fun c1 => ?_) (fun c1 => ?_)
  · refine s_locals [0, 1, 2, 3, 4] rfl ?_
    exact hK100 x0 x1 x2 x3 x4
  · refine s_aload_n dX0_fewestMore_69 rfl ?_
    refine s_iload dX0_fewestMore_70 rfl ?_
    refine s_iload dX0_fewestMore_72 rfl ?_
    refine s_iconst (v := 4) dX0_fewestMore_74 (by decide) ?_
    refine s_imul dX0_fewestMore_75 ?_
    refine s_iload_n dX0_fewestMore_76 rfl ?_
    refine s_iadd dX0_fewestMore_77 ?_
    refine s_virtV (as := [.int x4, .int ((x5 * (4 : Int32)) + x1)]) (rest := []) dX0_fewestMore_78 vX0_72 (CX0_writeMore _ _ _) (Nat.le_of_ble_eq_true rfl) ⟨Nat.le_refl _, Nat.le_refl _⟩ fun v1 => ?_
    refine s_aload_n dX0_fewestMore_81 rfl ?_
    refine s_iload_n dX0_fewestMore_82 rfl ?_
    refine s_iload dX0_fewestMore_83 rfl ?_
    refine s_virtI (as := [.int x2, .int x4]) (rest := []) dX0_fewestMore_85 vX0_76 (CX0_keeps _ _ _) (Nat.le_of_ble_eq_true rfl) ⟨Nat.le_refl _, Nat.le_refl _⟩ fun v2 => ?_
    refine s_if_eq (tgt := 94) dX0_fewestMore_88 (by decide) (fun c2 => ?_) (fun c2 => ?_)
    · refine s_iinc (lv' := [(5, .int (x5 + 1)), (0, .ref x0), (1, .int x1), (2, .int x2), (3, .int x3), (4, .int x4)]) dX0_fewestMore_94 rfl (by decide) rfl ?_
      refine s_goto (tgt := 63) dX0_fewestMore_97 (by decide) ?_
      refine s_locals [1, 2, 3, 4, 5, 0] rfl ?_
      exact hR x0 x1 x2 x3 x4 (x5 + 1)
    · refine s_iload dX0_fewestMore_91 rfl ?_
      exact s_ireturn dX0_fewestMore_93 rfl rfl
def WX0_fewestMore_63 (K100 : Nat → Int32 → Int32 → Int32 → Int32 → qP Int32) : Nat → Nat → Int32 → Int32 → Int32 → Int32 → Int32 → qP Int32
  | 0 => fun _ _ _ _ _ _ => qfail
  | N + 1 => fun x0 x1 x2 x3 x4 x5 => UX0_fewestMore_63 (WX0_fewestMore_63 K100 N) K100 x0 x1 x2 x3 x4 x5
theorem WX0_fewestMore_63_ok {l : Launch} {g : qG} {d n : Nat} {K100 : Nat → Int32 → Int32 → Int32 → Int32 → qP Int32} (hK100 : ∀ (x0 : Nat) (x1 : Int32) (x2 : Int32) (x3 : Int32) (x4 : Int32), qS l g mX0_fewestMore (d + 4) n 0 0 0 0 cvI 100 [(0, .ref x0), (1, .int x1), (2, .int x2), (3, .int x3), (4, .int x4)] [] (K100 x0 x1 x2 x3 x4)) : ∀ (N : Nat) (x0 : Nat) (x1 : Int32) (x2 : Int32) (x3 : Int32) (x4 : Int32) (x5 : Int32), qS l g mX0_fewestMore (d + 4) n 0 0 0 0 cvI 63 [(0, .ref x0), (1, .int x1), (2, .int x2), (3, .int x3), (4, .int x4), (5, .int x5)] [] (WX0_fewestMore_63 K100 N x0 x1 x2 x3 x4 x5) := by
  intro N
  induction N with
  | zero => intro x0 x1 x2 x3 x4 x5; exact s_fail
  | succ N ih => intro x0 x1 x2 x3 x4 x5; exact UX0_fewestMore_63_ok ih hK100 x0 x1 x2 x3 x4 x5
def UX0_fewestMore_100 (R : Nat → Int32 → Int32 → Int32 → Int32 → qP Int32) (x0 : Nat) (x1 : Int32) (x2 : Int32) (x3 : Int32) (x4 : Int32) : qP Int32 :=
R x0 x1 x2 (x3 * (4 : Int32)) (x4 + 1)
set_option maxRecDepth 100000 in
set_option maxHeartbeats 4000000 in
theorem UX0_fewestMore_100_ok {l : Launch} {g : qG} {d n : Nat} {R : Nat → Int32 → Int32 → Int32 → Int32 → qP Int32} (hR : ∀ (x0 : Nat) (x1 : Int32) (x2 : Int32) (x3 : Int32) (x4 : Int32), qS l g mX0_fewestMore (d + 4) n 0 0 0 0 cvI 54 [(0, .ref x0), (1, .int x1), (2, .int x2), (3, .int x3), (4, .int x4)] [] (R x0 x1 x2 x3 x4)) (x0 : Nat) (x1 : Int32) (x2 : Int32) (x3 : Int32) (x4 : Int32) : qS l g mX0_fewestMore (d + 4) n 0 0 0 0 cvI 100 [(0, .ref x0), (1, .int x1), (2, .int x2), (3, .int x3), (4, .int x4)] [] (UX0_fewestMore_100 R x0 x1 x2 x3 x4) := by
  unfold UX0_fewestMore_100
  refine s_iload_n dX0_fewestMore_100 rfl ?_
  refine s_iconst (v := 4) dX0_fewestMore_101 (by decide) ?_
  refine s_imul dX0_fewestMore_102 ?_
  refine s_istore_n (lv' := [(3, .int (x3 * (4 : Int32))), (0, .ref x0), (1, .int x1), (2, .int x2), (4, .int x4)]) dX0_fewestMore_103 (by decide) rfl ?_
  refine s_iinc (lv' := [(4, .int (x4 + 1)), (3, .int (x3 * (4 : Int32))), (0, .ref x0), (1, .int x1), (2, .int x2)]) dX0_fewestMore_104 rfl (by decide) rfl ?_
  refine s_goto (tgt := 54) dX0_fewestMore_107 (by decide) ?_
  refine s_locals [2, 3, 4, 1, 0] rfl ?_
  exact hR x0 x1 x2 (x3 * (4 : Int32)) (x4 + 1)
def UX0_fewestMore_54 (R : Nat → Int32 → Int32 → Int32 → Int32 → qP Int32) (x0 : Nat) (x1 : Int32) (x2 : Int32) (x3 : Int32) (x4 : Int32) : qP Int32 :=
if (3 : Int32) < x4 then (
qr (-1 : Int32)) else (
WX0_fewestMore_63 (UX0_fewestMore_100 R) 1000000 x0 x1 x2 x3 x4 (0 : Int32))
set_option maxRecDepth 100000 in
set_option maxHeartbeats 4000000 in
theorem UX0_fewestMore_54_ok {l : Launch} {g : qG} {d n : Nat} {R : Nat → Int32 → Int32 → Int32 → Int32 → qP Int32} (hR : ∀ (x0 : Nat) (x1 : Int32) (x2 : Int32) (x3 : Int32) (x4 : Int32), qS l g mX0_fewestMore (d + 4) n 0 0 0 0 cvI 54 [(0, .ref x0), (1, .int x1), (2, .int x2), (3, .int x3), (4, .int x4)] [] (R x0 x1 x2 x3 x4)) (x0 : Nat) (x1 : Int32) (x2 : Int32) (x3 : Int32) (x4 : Int32) : qS l g mX0_fewestMore (d + 4) n 0 0 0 0 cvI 54 [(0, .ref x0), (1, .int x1), (2, .int x2), (3, .int x3), (4, .int x4)] [] (UX0_fewestMore_54 R x0 x1 x2 x3 x4) := by
  unfold UX0_fewestMore_54
  refine s_iload dX0_fewestMore_54 rfl ?_
  refine s_iconst (v := 3) dX0_fewestMore_56 (by decide) ?_
  refine s_icmp_gt (tgt := 110) dX0_fewestMore_57 (by decide) (fun c1 => ?_) (fun c1 => ?_)
  · refine s_iconst (v := -1) dX0_fewestMore_110 (by decide) ?_
    exact s_ireturn dX0_fewestMore_111 rfl rfl
  · refine s_iconst (v := 0) dX0_fewestMore_60 (by decide) ?_
    refine s_istore (lv' := [(5, .int (0 : Int32)), (0, .ref x0), (1, .int x1), (2, .int x2), (3, .int x3), (4, .int x4)]) dX0_fewestMore_61 (by decide) rfl ?_
    refine s_locals [1, 2, 3, 4, 5, 0] rfl ?_
    exact WX0_fewestMore_63_ok (UX0_fewestMore_100_ok hR) 1000000 x0 x1 x2 x3 x4 (0 : Int32)
def WX0_fewestMore_54 : Nat → Nat → Int32 → Int32 → Int32 → Int32 → qP Int32
  | 0 => fun _ _ _ _ _ => qfail
  | N + 1 => fun x0 x1 x2 x3 x4 => UX0_fewestMore_54 (WX0_fewestMore_54  N)  x0 x1 x2 x3 x4
theorem WX0_fewestMore_54_ok {l : Launch} {g : qG} {d n : Nat} : ∀ (N : Nat) (x0 : Nat) (x1 : Int32) (x2 : Int32) (x3 : Int32) (x4 : Int32), qS l g mX0_fewestMore (d + 4) n 0 0 0 0 cvI 54 [(0, .ref x0), (1, .int x1), (2, .int x2), (3, .int x3), (4, .int x4)] [] (WX0_fewestMore_54  N x0 x1 x2 x3 x4) := by
  intro N
  induction N with
  | zero => intro x0 x1 x2 x3 x4; exact s_fail
  | succ N ih => intro x0 x1 x2 x3 x4; exact UX0_fewestMore_54_ok ih  x0 x1 x2 x3 x4
def UX0_fewestMore_33 (x0 : Nat) (x1 : Int32) : qP Int32 :=
if x1 < (4 : Int32) then (
qb (qcl 0 x0) fun _ => qb (FX0_unbroken x0) fun v1 =>
qb (qcl 0 x0) fun _ => qb (FX0_reachEnd x0) fun v2 =>
WX0_fewestMore_54 1000000 x0 x1 v1 (1 : Int32) (1 : Int32)) else (
qr (-1 : Int32))
set_option maxRecDepth 100000 in
set_option maxHeartbeats 4000000 in
theorem UX0_fewestMore_33_ok {l : Launch} {g : qG} {d n : Nat} (x0 : Nat) (x1 : Int32) : qS l g mX0_fewestMore (d + 4) n 0 0 0 0 cvI 33 [(0, .ref x0), (1, .int x1)] [] (UX0_fewestMore_33 x0 x1) := by
  unfold UX0_fewestMore_33
  refine s_iload_n dX0_fewestMore_33 rfl ?_
  refine s_iconst (v := 4) dX0_fewestMore_34 (by decide) ?_
  refine s_icmp_lt (tgt := 40) dX0_fewestMore_35 (by decide) (fun c1 => ?_) (fun c1 => ?_)
  · refine s_aload_n dX0_fewestMore_40 rfl ?_
    refine s_virtI (as := []) (rest := []) dX0_fewestMore_41 vX0_65 (CX0_unbroken _) (Nat.le_of_ble_eq_true rfl) ⟨Nat.le_refl _, Nat.le_refl _⟩ fun v1 => ?_
    refine s_istore_n (lv' := [(2, .int v1), (0, .ref x0), (1, .int x1)]) dX0_fewestMore_44 (by decide) rfl ?_
    refine s_aload_n dX0_fewestMore_45 rfl ?_
    refine s_virtV (as := []) (rest := []) dX0_fewestMore_46 vX0_69 (CX0_reachEnd _) (Nat.le_of_ble_eq_true rfl) ⟨Nat.le_refl _, Nat.le_refl _⟩ fun v2 => ?_
    refine s_iconst (v := 1) dX0_fewestMore_49 (by decide) ?_
    refine s_istore_n (lv' := [(3, .int (1 : Int32)), (2, .int v1), (0, .ref x0), (1, .int x1)]) dX0_fewestMore_50 (by decide) rfl ?_
    refine s_iconst (v := 1) dX0_fewestMore_51 (by decide) ?_
    refine s_istore (lv' := [(4, .int (1 : Int32)), (3, .int (1 : Int32)), (2, .int v1), (0, .ref x0), (1, .int x1)]) dX0_fewestMore_52 (by decide) rfl ?_
    refine s_locals [3, 4, 2, 1, 0] rfl ?_
    exact WX0_fewestMore_54_ok  1000000 x0 x1 v1 (1 : Int32) (1 : Int32)
  · refine s_iconst (v := -1) dX0_fewestMore_38 (by decide) ?_
    exact s_ireturn dX0_fewestMore_39 rfl rfl
def FX0_fewestMore (x0 : Nat) (x1 : Int32) : qP Int32 :=
qb (gI 0 x0 1) fun v1 =>
if v1 ≤ 0 then (
UX0_fewestMore_33 x0 x1) else (
qb (gI 0 x0 1) fun v2 =>
if (60 : Int32) < v2 then (
UX0_fewestMore_33 x0 x1) else (
qb (gR 0 x0 0) fun v3 =>
qb (gI 0 x0 1) fun v4 =>
qb (aI v3 (v4 - (1 : Int32))) fun v5 =>
if v5 = x1 then (
qr (0 : Int32)) else (
UX0_fewestMore_33 x0 x1)))
set_option maxRecDepth 100000 in
set_option maxHeartbeats 4000000 in
theorem FX0_fewestMore_ok {l : Launch} {g : qG} {d n : Nat} (x0 : Nat) (x1 : Int32) : qS l g mX0_fewestMore (d + 4) n 0 0 0 0 cvI 0 [(0, .ref x0), (1, .int x1)] [] (FX0_fewestMore x0 x1) := by
  unfold FX0_fewestMore
  refine s_aload_n dX0_fewestMore_0 rfl ?_
  refine s_gI dX0_fewestMore_1 fX0_15 fun v1 => ?_
  refine s_if_le (tgt := 33) dX0_fewestMore_4 (by decide) (fun c1 => ?_) (fun c1 => ?_)
  · exact UX0_fewestMore_33_ok x0 x1
  · refine s_aload_n dX0_fewestMore_7 rfl ?_
    refine s_gI dX0_fewestMore_8 fX0_15 fun v2 => ?_
    refine s_bipush (v := 60) dX0_fewestMore_11 (by decide) ?_
    refine s_icmp_gt (tgt := 33) dX0_fewestMore_13 (by decide) (fun c2 => ?_) (fun c2 => ?_)
    · exact UX0_fewestMore_33_ok x0 x1
    · refine s_aload_n dX0_fewestMore_16 rfl ?_
      refine s_gR dX0_fewestMore_17 fX0_11 fun v3 => ?_
      refine s_aload_n dX0_fewestMore_20 rfl ?_
      refine s_gI dX0_fewestMore_21 fX0_15 fun v4 => ?_
      refine s_iconst (v := 1) dX0_fewestMore_24 (by decide) ?_
      refine s_isub dX0_fewestMore_25 ?_
      refine s_aI dX0_fewestMore_26 fun v5 => ?_
      refine s_iload_n dX0_fewestMore_27 rfl ?_
      refine s_icmp_ne (tgt := 33) dX0_fewestMore_28 (by decide) (fun c3 => ?_) (fun c3 => ?_)
      · refine s_iconst (v := 0) dX0_fewestMore_31 (by decide) ?_
        exact s_ireturn dX0_fewestMore_32 rfl rfl
      · exact UX0_fewestMore_33_ok x0 x1
theorem CX0_fewestMore {l : Launch} {g : qG} {d : Nat} (x0 : Nat) (x1 : Int32) : qCt l g mX0_fewestMore (d + 4) 0 0 cvI [.ref x0, .int x1] (FX0_fewestMore x0 x1) := s_of pn_X0 (Nat.le_of_ble_eq_true rfl) fun n => FX0_fewestMore_ok x0 x1
def FX0_moreSign (x0 : Nat) (x1 : Int32) : qP Int32 :=
if x1 < 0 then (
qr (-1 : Int32)) else (
if (3 : Int32) ≤ x1 then (
qr (-1 : Int32)) else (
qb (gR 0 x0 5) fun v1 =>
qb (aI v1 x1) fun v2 =>
qr v2))
set_option maxRecDepth 100000 in
set_option maxHeartbeats 4000000 in
theorem FX0_moreSign_ok {l : Launch} {g : qG} {d n : Nat} (x0 : Nat) (x1 : Int32) : qS l g mX0_moreSign d n 0 0 0 0 cvI 0 [(0, .ref x0), (1, .int x1)] [] (FX0_moreSign x0 x1) := by
  unfold FX0_moreSign
  refine s_iload_n dX0_moreSign_0 rfl ?_
  refine s_if_lt (tgt := 18) dX0_moreSign_1 (by decide) (fun c1 => ?_) (fun c1 => ?_)
  · refine s_iconst (v := -1) dX0_moreSign_18 (by decide) ?_
    exact s_ireturn dX0_moreSign_19 rfl rfl
  · refine s_iload_n dX0_moreSign_4 rfl ?_
    refine s_iconst (v := 3) dX0_moreSign_5 (by decide) ?_
    refine s_icmp_ge (tgt := 18) dX0_moreSign_6 (by decide) (fun c2 => ?_) (fun c2 => ?_)
    · refine s_iconst (v := -1) dX0_moreSign_18 (by decide) ?_
      exact s_ireturn dX0_moreSign_19 rfl rfl
    · refine s_aload_n dX0_moreSign_9 rfl ?_
      refine s_gR dX0_moreSign_10 fX0_28 fun v1 => ?_
      refine s_iload_n dX0_moreSign_13 rfl ?_
      refine s_aI dX0_moreSign_14 fun v2 => ?_
      refine s_goto (tgt := 19) dX0_moreSign_15 (by decide) ?_
      exact s_ireturn dX0_moreSign_19 rfl rfl
theorem CX0_moreSign {l : Launch} {g : qG} {d : Nat} (x0 : Nat) (x1 : Int32) : qCt l g mX0_moreSign d 0 0 cvI [.ref x0, .int x1] (FX0_moreSign x0 x1) := s_of pn_X0 (Nat.le_of_ble_eq_true rfl) fun n => FX0_moreSign_ok x0 x1
def UX0_mixed_5 (R : Nat → Int64 → Int32 → qP Int64) (K35 : Nat → Int64 → qP Int64) (x0 : Nat) (x3 : Int64) (x5 : Int32) : qP Int64 :=
qb (gI 0 x0 1) fun v1 =>
if v1 ≤ x5 then (
K35 x0 x3) else (
qb (gR 0 x0 0) fun v2 =>
qb (aI v2 x5) fun v3 =>
R x0 (((31 : Int64) * x3) + (v3).toInt64) (x5 + 1))
set_option maxRecDepth 100000 in
set_option maxHeartbeats 4000000 in
theorem UX0_mixed_5_ok {l : Launch} {g : qG} {d n : Nat} {R : Nat → Int64 → Int32 → qP Int64} (hR : ∀ (x0 : Nat) (x3 : Int64) (x5 : Int32), qS l g mX0_mixed d n 0 0 0 0 cvL 5 [(0, .ref x0), (3, .long x3), (5, .int x5)] [] (R x0 x3 x5)) {K35 : Nat → Int64 → qP Int64} (hK35 : ∀ (x0 : Nat) (x3 : Int64), qS l g mX0_mixed d n 0 0 0 0 cvL 35 [(0, .ref x0), (3, .long x3)] [] (K35 x0 x3)) (x0 : Nat) (x3 : Int64) (x5 : Int32) : qS l g mX0_mixed d n 0 0 0 0 cvL 5 [(0, .ref x0), (3, .long x3), (5, .int x5)] [] (UX0_mixed_5 R K35 x0 x3 x5) := by
  unfold UX0_mixed_5
  refine s_iload dX0_mixed_5 rfl ?_
  refine s_aload_n dX0_mixed_7 rfl ?_
  refine s_gI dX0_mixed_8 fX0_15 fun v1 => ?_
  refine s_icmp_ge (tgt := 35) dX0_mixed_11 (by decide) (fun c1 => ?_) (fun c1 => ?_)
  · refine s_locals [0, 1] rfl ?_
    exact hK35 x0 x3
  · refine s_ldc2 dX0_mixed_14 lX0_79 ?_
    refine s_lload_n dX0_mixed_17 rfl ?_
    refine s_lmul dX0_mixed_18 ?_
    refine s_aload_n dX0_mixed_19 rfl ?_
    refine s_gR dX0_mixed_20 fX0_11 fun v2 => ?_
    refine s_iload dX0_mixed_23 rfl ?_
    refine s_aI dX0_mixed_25 fun v3 => ?_
    refine s_i2l dX0_mixed_26 ?_
    refine s_ladd dX0_mixed_27 ?_
    refine s_lstore_n (lv' := [(3, .long (((31 : Int64) * x3) + (v3).toInt64)), (0, .ref x0), (5, .int x5)]) dX0_mixed_28 (by decide) rfl ?_
    refine s_iinc (lv' := [(5, .int (x5 + 1)), (3, .long (((31 : Int64) * x3) + (v3).toInt64)), (0, .ref x0)]) dX0_mixed_29 rfl (by decide) rfl ?_
    refine s_goto (tgt := 5) dX0_mixed_32 (by decide) ?_
    refine s_locals [2, 1, 0] rfl ?_
    exact hR x0 (((31 : Int64) * x3) + (v3).toInt64) (x5 + 1)
def WX0_mixed_5 (K35 : Nat → Int64 → qP Int64) : Nat → Nat → Int64 → Int32 → qP Int64
  | 0 => fun _ _ _ => qfail
  | N + 1 => fun x0 x3 x5 => UX0_mixed_5 (WX0_mixed_5 K35 N) K35 x0 x3 x5
theorem WX0_mixed_5_ok {l : Launch} {g : qG} {d n : Nat} {K35 : Nat → Int64 → qP Int64} (hK35 : ∀ (x0 : Nat) (x3 : Int64), qS l g mX0_mixed d n 0 0 0 0 cvL 35 [(0, .ref x0), (3, .long x3)] [] (K35 x0 x3)) : ∀ (N : Nat) (x0 : Nat) (x3 : Int64) (x5 : Int32), qS l g mX0_mixed d n 0 0 0 0 cvL 5 [(0, .ref x0), (3, .long x3), (5, .int x5)] [] (WX0_mixed_5 K35 N x0 x3 x5) := by
  intro N
  induction N with
  | zero => intro x0 x3 x5; exact s_fail
  | succ N ih => intro x0 x3 x5; exact UX0_mixed_5_ok ih hK35 x0 x3 x5
def UX0_mixed_62 (R : Nat → Int64 → Int32 → Int32 → qP Int64) (K101 : Nat → Int64 → Int32 → qP Int64) (x0 : Nat) (x3 : Int64) (x5 : Int32) (x6 : Int32) : qP Int64 :=
qb (gR 0 x0 3) fun v1 =>
qb (aI v1 x5) fun v2 =>
if v2 ≤ x6 then (
K101 x0 x3 x5) else (
qb (gR 0 x0 2) fun v3 =>
qb (aI v3 ((x5 * (8 : Int32)) + x6)) fun v4 =>
R x0 (((31 : Int64) * x3) + (v4).toInt64) x5 (x6 + 1))
set_option maxRecDepth 100000 in
set_option maxHeartbeats 4000000 in
theorem UX0_mixed_62_ok {l : Launch} {g : qG} {d n : Nat} {R : Nat → Int64 → Int32 → Int32 → qP Int64} (hR : ∀ (x0 : Nat) (x3 : Int64) (x5 : Int32) (x6 : Int32), qS l g mX0_mixed d n 0 0 0 0 cvL 62 [(0, .ref x0), (3, .long x3), (5, .int x5), (6, .int x6)] [] (R x0 x3 x5 x6)) {K101 : Nat → Int64 → Int32 → qP Int64} (hK101 : ∀ (x0 : Nat) (x3 : Int64) (x5 : Int32), qS l g mX0_mixed d n 0 0 0 0 cvL 101 [(0, .ref x0), (3, .long x3), (5, .int x5)] [] (K101 x0 x3 x5)) (x0 : Nat) (x3 : Int64) (x5 : Int32) (x6 : Int32) : qS l g mX0_mixed d n 0 0 0 0 cvL 62 [(0, .ref x0), (3, .long x3), (5, .int x5), (6, .int x6)] [] (UX0_mixed_62 R K101 x0 x3 x5 x6) := by
  unfold UX0_mixed_62
  refine s_iload dX0_mixed_62 rfl ?_
  refine s_aload_n dX0_mixed_64 rfl ?_
  refine s_gR dX0_mixed_65 fX0_22 fun v1 => ?_
  refine s_iload dX0_mixed_68 rfl ?_
  refine s_aI dX0_mixed_70 fun v2 => ?_
  refine s_icmp_ge (tgt := 101) dX0_mixed_71 (by decide) (fun c1 => ?_) (fun c1 => ?_)
  · refine s_locals [0, 1, 2] rfl ?_
    exact hK101 x0 x3 x5
  · refine s_ldc2 dX0_mixed_74 lX0_79 ?_
    refine s_lload_n dX0_mixed_77 rfl ?_
    refine s_lmul dX0_mixed_78 ?_
    refine s_aload_n dX0_mixed_79 rfl ?_
    refine s_gR dX0_mixed_80 fX0_19 fun v3 => ?_
    refine s_iload dX0_mixed_83 rfl ?_
    refine s_bipush (v := 8) dX0_mixed_85 (by decide) ?_
    refine s_imul dX0_mixed_87 ?_
    refine s_iload dX0_mixed_88 rfl ?_
    refine s_iadd dX0_mixed_90 ?_
    refine s_aI dX0_mixed_91 fun v4 => ?_
    refine s_i2l dX0_mixed_92 ?_
    refine s_ladd dX0_mixed_93 ?_
    refine s_lstore_n (lv' := [(3, .long (((31 : Int64) * x3) + (v4).toInt64)), (0, .ref x0), (5, .int x5), (6, .int x6)]) dX0_mixed_94 (by decide) rfl ?_
    refine s_iinc (lv' := [(6, .int (x6 + 1)), (3, .long (((31 : Int64) * x3) + (v4).toInt64)), (0, .ref x0), (5, .int x5)]) dX0_mixed_95 rfl (by decide) rfl ?_
    refine s_goto (tgt := 62) dX0_mixed_98 (by decide) ?_
    refine s_locals [2, 1, 3, 0] rfl ?_
    exact hR x0 (((31 : Int64) * x3) + (v4).toInt64) x5 (x6 + 1)
def WX0_mixed_62 (K101 : Nat → Int64 → Int32 → qP Int64) : Nat → Nat → Int64 → Int32 → Int32 → qP Int64
  | 0 => fun _ _ _ _ => qfail
  | N + 1 => fun x0 x3 x5 x6 => UX0_mixed_62 (WX0_mixed_62 K101 N) K101 x0 x3 x5 x6
theorem WX0_mixed_62_ok {l : Launch} {g : qG} {d n : Nat} {K101 : Nat → Int64 → Int32 → qP Int64} (hK101 : ∀ (x0 : Nat) (x3 : Int64) (x5 : Int32), qS l g mX0_mixed d n 0 0 0 0 cvL 101 [(0, .ref x0), (3, .long x3), (5, .int x5)] [] (K101 x0 x3 x5)) : ∀ (N : Nat) (x0 : Nat) (x3 : Int64) (x5 : Int32) (x6 : Int32), qS l g mX0_mixed d n 0 0 0 0 cvL 62 [(0, .ref x0), (3, .long x3), (5, .int x5), (6, .int x6)] [] (WX0_mixed_62 K101 N x0 x3 x5 x6) := by
  intro N
  induction N with
  | zero => intro x0 x3 x5 x6; exact s_fail
  | succ N ih => intro x0 x3 x5 x6; exact UX0_mixed_62_ok ih hK101 x0 x3 x5 x6
def UX0_mixed_101 (R : Nat → Int64 → Int32 → qP Int64) (x0 : Nat) (x3 : Int64) (x5 : Int32) : qP Int64 :=
R x0 x3 (x5 + 1)
set_option maxRecDepth 100000 in
set_option maxHeartbeats 4000000 in
theorem UX0_mixed_101_ok {l : Launch} {g : qG} {d n : Nat} {R : Nat → Int64 → Int32 → qP Int64} (hR : ∀ (x0 : Nat) (x3 : Int64) (x5 : Int32), qS l g mX0_mixed d n 0 0 0 0 cvL 38 [(0, .ref x0), (3, .long x3), (5, .int x5)] [] (R x0 x3 x5)) (x0 : Nat) (x3 : Int64) (x5 : Int32) : qS l g mX0_mixed d n 0 0 0 0 cvL 101 [(0, .ref x0), (3, .long x3), (5, .int x5)] [] (UX0_mixed_101 R x0 x3 x5) := by
  unfold UX0_mixed_101
  refine s_iinc (lv' := [(5, .int (x5 + 1)), (0, .ref x0), (3, .long x3)]) dX0_mixed_101 rfl (by decide) rfl ?_
  refine s_goto (tgt := 38) dX0_mixed_104 (by decide) ?_
  refine s_locals [1, 2, 0] rfl ?_
  exact hR x0 x3 (x5 + 1)
def UX0_mixed_38 (R : Nat → Int64 → Int32 → qP Int64) (x0 : Nat) (x3 : Int64) (x5 : Int32) : qP Int64 :=
if (4 : Int32) ≤ x5 then (
qr x3) else (
qb (gR 0 x0 3) fun v1 =>
qb (aI v1 x5) fun v2 =>
WX0_mixed_62 (UX0_mixed_101 R) 1000000 x0 (((31 : Int64) * x3) + (v2).toInt64) x5 (0 : Int32))
set_option maxRecDepth 100000 in
set_option maxHeartbeats 4000000 in
theorem UX0_mixed_38_ok {l : Launch} {g : qG} {d n : Nat} {R : Nat → Int64 → Int32 → qP Int64} (hR : ∀ (x0 : Nat) (x3 : Int64) (x5 : Int32), qS l g mX0_mixed d n 0 0 0 0 cvL 38 [(0, .ref x0), (3, .long x3), (5, .int x5)] [] (R x0 x3 x5)) (x0 : Nat) (x3 : Int64) (x5 : Int32) : qS l g mX0_mixed d n 0 0 0 0 cvL 38 [(0, .ref x0), (3, .long x3), (5, .int x5)] [] (UX0_mixed_38 R x0 x3 x5) := by
  unfold UX0_mixed_38
  refine s_iload dX0_mixed_38 rfl ?_
  refine s_iconst (v := 4) dX0_mixed_40 (by decide) ?_
  refine s_icmp_ge (tgt := 107) dX0_mixed_41 (by decide) (fun c1 => ?_) (fun c1 => ?_)
  · refine s_lload_n dX0_mixed_107 rfl ?_
    exact s_lreturn dX0_mixed_108 rfl
  · refine s_ldc2 dX0_mixed_44 lX0_79 ?_
    refine s_lload_n dX0_mixed_47 rfl ?_
    refine s_lmul dX0_mixed_48 ?_
    refine s_aload_n dX0_mixed_49 rfl ?_
    refine s_gR dX0_mixed_50 fX0_22 fun v1 => ?_
    refine s_iload dX0_mixed_53 rfl ?_
    refine s_aI dX0_mixed_55 fun v2 => ?_
    refine s_i2l dX0_mixed_56 ?_
    refine s_ladd dX0_mixed_57 ?_
    refine s_lstore_n (lv' := [(3, .long (((31 : Int64) * x3) + (v2).toInt64)), (0, .ref x0), (5, .int x5)]) dX0_mixed_58 (by decide) rfl ?_
    refine s_iconst (v := 0) dX0_mixed_59 (by decide) ?_
    refine s_istore (lv' := [(6, .int (0 : Int32)), (3, .long (((31 : Int64) * x3) + (v2).toInt64)), (0, .ref x0), (5, .int x5)]) dX0_mixed_60 (by decide) rfl ?_
    refine s_locals [2, 1, 3, 0] rfl ?_
    exact WX0_mixed_62_ok (UX0_mixed_101_ok hR) 1000000 x0 (((31 : Int64) * x3) + (v2).toInt64) x5 (0 : Int32)
def WX0_mixed_38 : Nat → Nat → Int64 → Int32 → qP Int64
  | 0 => fun _ _ _ => qfail
  | N + 1 => fun x0 x3 x5 => UX0_mixed_38 (WX0_mixed_38  N)  x0 x3 x5
theorem WX0_mixed_38_ok {l : Launch} {g : qG} {d n : Nat} : ∀ (N : Nat) (x0 : Nat) (x3 : Int64) (x5 : Int32), qS l g mX0_mixed d n 0 0 0 0 cvL 38 [(0, .ref x0), (3, .long x3), (5, .int x5)] [] (WX0_mixed_38  N x0 x3 x5) := by
  intro N
  induction N with
  | zero => intro x0 x3 x5; exact s_fail
  | succ N ih => intro x0 x3 x5; exact UX0_mixed_38_ok ih  x0 x3 x5
def UX0_mixed_35 (x0 : Nat) (x3 : Int64) : qP Int64 :=
WX0_mixed_38 1000000 x0 x3 (0 : Int32)
set_option maxRecDepth 100000 in
set_option maxHeartbeats 4000000 in
theorem UX0_mixed_35_ok {l : Launch} {g : qG} {d n : Nat} (x0 : Nat) (x3 : Int64) : qS l g mX0_mixed d n 0 0 0 0 cvL 35 [(0, .ref x0), (3, .long x3)] [] (UX0_mixed_35 x0 x3) := by
  unfold UX0_mixed_35
  refine s_iconst (v := 0) dX0_mixed_35 (by decide) ?_
  refine s_istore (lv' := [(5, .int (0 : Int32)), (0, .ref x0), (3, .long x3)]) dX0_mixed_36 (by decide) rfl ?_
  refine s_locals [1, 2, 0] rfl ?_
  exact WX0_mixed_38_ok  1000000 x0 x3 (0 : Int32)
def FX0_mixed (x0 : Nat) (x1 : Int64) : qP Int64 :=
WX0_mixed_5 (UX0_mixed_35) 1000000 x0 x1 (0 : Int32)
set_option maxRecDepth 100000 in
set_option maxHeartbeats 4000000 in
theorem FX0_mixed_ok {l : Launch} {g : qG} {d n : Nat} (x0 : Nat) (x1 : Int64) : qS l g mX0_mixed d n 0 0 0 0 cvL 0 [(0, .ref x0), (1, .long x1)] [] (FX0_mixed x0 x1) := by
  unfold FX0_mixed
  refine s_lload_n dX0_mixed_0 rfl ?_
  refine s_lstore_n (lv' := [(3, .long x1), (0, .ref x0), (1, .long x1)]) dX0_mixed_1 (by decide) rfl ?_
  refine s_iconst (v := 0) dX0_mixed_2 (by decide) ?_
  refine s_istore (lv' := [(5, .int (0 : Int32)), (3, .long x1), (0, .ref x0), (1, .long x1)]) dX0_mixed_3 (by decide) rfl ?_
  refine s_locals [2, 1, 0] rfl ?_
  exact WX0_mixed_5_ok (UX0_mixed_35_ok) 1000000 x0 x1 (0 : Int32)
theorem CX0_mixed {l : Launch} {g : qG} {d : Nat} (x0 : Nat) (x1 : Int64) : qCt l g mX0_mixed d 0 0 cvL [.ref x0, .long x1] (FX0_mixed x0 x1) := s_of pn_X0 (Nat.le_of_ble_eq_true rfl) fun n => FX0_mixed_ok x0 x1
